/-! shapes: the class (by program) -/
theorem s_CM_isTriple {G : pG} {w : pW} (x : Int32) (y : Int32) (z : Int32) : PM G M_CM_isTriple 2 0 0 [.int x, .int y, .int z] w (fun r w' => (∃ v, r = some (.int (bi v))) ∧ w' = w) := by
  refine PM_of pn_CM_isTriple (le_b rfl) ?_
  show PW _ _ _ _ _ _ (0, [(0, .int x), (1, .int y), (2, .int z)], [], w)
  refine P_iload_n d_CM_isTriple_0 rfl ?_
  refine P_iload_n d_CM_isTriple_1 rfl ?_
  refine P_iload_n d_CM_isTriple_2 rfl ?_
  refine P_callS (M := M_CM_isTriple) (pc := 3) (as := [.int x, .int y, .int z]) d_CM_isTriple_3 co_CM_areNumbers L_CM_228 sm_CM_areNumbers (v_CM_areNumbers x y z) rfl ⟨by decide, by decide⟩ ⟨by decide, by decide⟩ (by exact le_b rfl) ?_ _ rfl
  rintro _ u ⟨rfl, eu⟩
  subst u
  show PW _ _ _ _ _ _ (6, [(0, .int x), (1, .int y), (2, .int z)], [.int (bi (edge3 x y z))], w)
  refine P_if_eq 22 d_CM_isTriple_6 (by decide) (fun c1 => ?_) (fun c1 => ?_)
  · refine P_iconst (v := 0) d_CM_isTriple_22 (by decide) ?_
    exact P_zret d_CM_isTriple_23 rfl rfl (le_b rfl) (le_b rfl) ⟨⟨false, rfl⟩, rfl⟩
  · refine P_iload_n d_CM_isTriple_9 rfl ?_
    refine P_iload_n d_CM_isTriple_10 rfl ?_
    refine P_iload_n d_CM_isTriple_11 rfl ?_
    refine P_callS (M := M_CM_isTriple) (pc := 12) (as := [.int x, .int y, .int z]) d_CM_isTriple_12 co_CM_isSomething L_CM_235 sm_CM_isSomething (v_CM_isSomething x y z) rfl ⟨by decide, by decide⟩ ⟨by decide, by decide⟩ (by exact le_b rfl) ?_ _ rfl
    rintro _ u ⟨rfl, eu⟩
    subst u
    show PW _ _ _ _ _ _ (15, [(0, .int x), (1, .int y), (2, .int z)], [.int (bi (some3 x y z))], w)
    refine P_if_eq 22 d_CM_isTriple_15 (by decide) (fun c2 => ?_) (fun c2 => ?_)
    · refine P_iconst (v := 0) d_CM_isTriple_22 (by decide) ?_
      exact P_zret d_CM_isTriple_23 rfl rfl (le_b rfl) (le_b rfl) ⟨⟨false, rfl⟩, rfl⟩
    · refine P_iconst (v := 1) d_CM_isTriple_18 (by decide) ?_
      refine P_goto 23 d_CM_isTriple_19 (by decide) ?_
      exact P_zret d_CM_isTriple_23 rfl rfl (le_b rfl) (le_b rfl) ⟨⟨true, rfl⟩, rfl⟩
theorem s_CM_arePoints {G : pG} {w : pW} {b bs : Nat} (e0 : w.2 0 = .inr (8, [.ref b, .ref (bs), .ref 153, .ref 164, .ref 169, .ref 155, .ref 189, .ref 447, .ref 449, .ref 450, .ref 451, .ref 452, .ref 453, .ref 454, .ref 455, .ref 456, .ref 457, .ref 466])) {x1 x2 x3 lc qc mc pc : Nat} (eb : w.2 b = .inr (1, [.ref x1, .ref x2, .ref x3, .int (nI lc), .int (nI qc), .int (nI mc), .int (nI pc)])) (hlc : lc ≤ 900) (hqc : qc ≤ 8) (hmc : mc ≤ 16) (hpc : pc ≤ 8) (p : Int32) (q : Int32) (s : Int32) (t : Int32) : PM G M_CM_arePoints 1 0 0 [.ref 0, .int p, .int q, .int s, .int t] w (fun r w' => r = some (.int (bi (inN pc p && inN pc q && inN pc s && inN pc t))) ∧ w' = w) := by
  refine PM_of pn_CM_arePoints (le_b rfl) ?_
  show PW _ _ _ _ _ _ (0, [(0, .ref 0), (1, .int p), (2, .int q), (3, .int s), (4, .int t)], [], w)
  refine P_aload_n d_CM_arePoints_0 rfl ?_
  refine P_getf (i := 0) d_CM_arePoints_1 ok_CM (by decide) L_CM_12 e0 rfl ?_
  refine P_iload_n d_CM_arePoints_4 rfl ?_
  refine P_callV (M := M_CM_arePoints) (pc := 5) (as := [.int p]) (b := b) d_CM_arePoints_5 co_Plane_hasPoint ok_Plane eb L_CM_160 im_Plane_hasPoint se_Plane_hasPoint (s_Plane_hasPoint eb hlc hqc hmc hpc p) rfl ⟨by decide, by decide⟩ ⟨by decide, by decide⟩ (by exact le_b rfl) ?_ _ rfl
  rintro _ u ⟨rfl, eu⟩
  subst u
  show PW _ _ _ _ _ _ (8, [(0, .ref 0), (1, .int p), (2, .int q), (3, .int s), (4, .int t)], [.int (bi (inN pc p))], w)
  refine P_if_eq 49 d_CM_arePoints_8 (by decide) (fun c2 => ?_) (fun c2 => ?_)
  · refine P_iconst (v := 0) d_CM_arePoints_49 (by decide) ?_
    exact P_zret d_CM_arePoints_50 rfl rfl (le_b rfl) (le_b rfl) ⟨by simp [bi, bi_0 c2], rfl⟩
  · obtain ⟨pN, hpN, rfl⟩ := inN_of (bi_1 c2) (by omega)
    refine P_aload_n d_CM_arePoints_11 rfl ?_
    refine P_getf (i := 0) d_CM_arePoints_12 ok_CM (by decide) L_CM_12 e0 rfl ?_
    refine P_iload_n d_CM_arePoints_15 rfl ?_
    refine P_callV (M := M_CM_arePoints) (pc := 16) (as := [.int q]) (b := b) d_CM_arePoints_16 co_Plane_hasPoint ok_Plane eb L_CM_160 im_Plane_hasPoint se_Plane_hasPoint (s_Plane_hasPoint eb hlc hqc hmc hpc q) rfl ⟨by decide, by decide⟩ ⟨by decide, by decide⟩ (by exact le_b rfl) ?_ _ rfl
    rintro _ u ⟨rfl, eu⟩
    subst u
    show PW _ _ _ _ _ _ (19, [(0, .ref 0), (1, .int (nI pN)), (2, .int q), (3, .int s), (4, .int t)], [.int (bi (inN pc q))], w)
    refine P_if_eq 49 d_CM_arePoints_19 (by decide) (fun c4 => ?_) (fun c4 => ?_)
    · refine P_iconst (v := 0) d_CM_arePoints_49 (by decide) ?_
      exact P_zret d_CM_arePoints_50 rfl rfl (le_b rfl) (le_b rfl) ⟨by simp [bi, bi_1 c2, bi_0 c4], rfl⟩
    · obtain ⟨qN, hqN, rfl⟩ := inN_of (bi_1 c4) (by omega)
      refine P_aload_n d_CM_arePoints_22 rfl ?_
      refine P_getf (i := 0) d_CM_arePoints_23 ok_CM (by decide) L_CM_12 e0 rfl ?_
      refine P_iload_n d_CM_arePoints_26 rfl ?_
      refine P_callV (M := M_CM_arePoints) (pc := 27) (as := [.int s]) (b := b) d_CM_arePoints_27 co_Plane_hasPoint ok_Plane eb L_CM_160 im_Plane_hasPoint se_Plane_hasPoint (s_Plane_hasPoint eb hlc hqc hmc hpc s) rfl ⟨by decide, by decide⟩ ⟨by decide, by decide⟩ (by exact le_b rfl) ?_ _ rfl
      rintro _ u ⟨rfl, eu⟩
      subst u
      show PW _ _ _ _ _ _ (30, [(0, .ref 0), (1, .int (nI pN)), (2, .int (nI qN)), (3, .int s), (4, .int t)], [.int (bi (inN pc s))], w)
      refine P_if_eq 49 d_CM_arePoints_30 (by decide) (fun c6 => ?_) (fun c6 => ?_)
      · refine P_iconst (v := 0) d_CM_arePoints_49 (by decide) ?_
        exact P_zret d_CM_arePoints_50 rfl rfl (le_b rfl) (le_b rfl) ⟨by simp [bi, bi_1 c2, bi_1 c4, bi_0 c6], rfl⟩
      · obtain ⟨sN, hsN, rfl⟩ := inN_of (bi_1 c6) (by omega)
        refine P_aload_n d_CM_arePoints_33 rfl ?_
        refine P_getf (i := 0) d_CM_arePoints_34 ok_CM (by decide) L_CM_12 e0 rfl ?_
        refine P_iload d_CM_arePoints_37 rfl ?_
        refine P_callV (M := M_CM_arePoints) (pc := 39) (as := [.int t]) (b := b) d_CM_arePoints_39 co_Plane_hasPoint ok_Plane eb L_CM_160 im_Plane_hasPoint se_Plane_hasPoint (s_Plane_hasPoint eb hlc hqc hmc hpc t) rfl ⟨by decide, by decide⟩ ⟨by decide, by decide⟩ (by exact le_b rfl) ?_ _ rfl
        rintro _ u ⟨rfl, eu⟩
        subst u
        show PW _ _ _ _ _ _ (42, [(0, .ref 0), (1, .int (nI pN)), (2, .int (nI qN)), (3, .int (nI sN)), (4, .int t)], [.int (bi (inN pc t))], w)
        refine P_if_eq 49 d_CM_arePoints_42 (by decide) (fun c8 => ?_) (fun c8 => ?_)
        · refine P_iconst (v := 0) d_CM_arePoints_49 (by decide) ?_
          exact P_zret d_CM_arePoints_50 rfl rfl (le_b rfl) (le_b rfl) ⟨by simp [bi, bi_1 c2, bi_1 c4, bi_1 c6, bi_0 c8], rfl⟩
        · obtain ⟨tN, htN, rfl⟩ := inN_of (bi_1 c8) (by omega)
          refine P_iconst (v := 1) d_CM_arePoints_45 (by decide) ?_
          refine P_goto 50 d_CM_arePoints_46 (by decide) ?_
          exact P_zret d_CM_arePoints_50 rfl rfl (le_b rfl) (le_b rfl) ⟨by simp [bi, bi_1 c2, bi_1 c4, bi_1 c6, bi_1 c8], rfl⟩
theorem s_CM_areAlike {G : pG} {w : pW} (hG : GO G) (hI : I w) (p : Nat) (hp : p < 8) (q : Nat) (hq : q < 8) : PM G M_CM_areAlike 1 0 0 [.ref 0, .int (nI p), .int (nI q)] w (fun r w' => (∃ v, r = some (.int (bi v))) ∧ I w' ∧ Fr SC w w') := by
  refine PM_of pn_CM_areAlike (le_b rfl) ?_
  show PW _ _ _ _ _ _ (0, [(0, .ref 0), (1, .int (nI p)), (2, .int (nI q))], [], w)
  obtain ⟨b, hb, e0⟩ := hI.cm
  obtain ⟨hb1, hb2⟩ := pl_rng hb
  obtain ⟨lc, qc, mc, pc, eb, hlc, hqc, hmc, hpc⟩ := hI.pl hb
  refine P_aload_n d_CM_areAlike_0 rfl ?_
  refine P_getf (i := 0) d_CM_areAlike_1 ok_CM (by decide) L_CM_12 e0 rfl ?_
  refine P_getfN (i := 2) d_CM_areAlike_4 ok_Plane (by decide) L_CM_163 eb rfl ?_
  refine P_iload_n d_CM_areAlike_7 rfl ?_
  refine P_aald (j := p) (q := b + 19 + 1 + p) d_CM_areAlike_8 (hI.ps hb) rfl (ix_nI (by omega)) (by omega) (rows_at (by omega)) ?_
  refine P_aload_n d_CM_areAlike_9 rfl ?_
  refine P_getf (i := 0) d_CM_areAlike_10 ok_CM (by decide) L_CM_12 e0 rfl ?_
  refine P_getfN (i := 2) d_CM_areAlike_13 ok_Plane (by decide) L_CM_163 eb rfl ?_
  refine P_iload_n d_CM_areAlike_16 rfl ?_
  refine P_aald (j := q) (q := b + 19 + 1 + q) d_CM_areAlike_17 (hI.ps hb) rfl (ix_nI (by omega)) (by omega) (rows_at (by omega)) ?_
  obtain ⟨f1, f1e⟩ := hI.row (r := b + 19 + 1 + p) (by omega) (Kc_p hb (by omega))
  obtain ⟨f2, f2e⟩ := hI.row (r := b + 19 + 1 + q) (by omega) (Kc_p hb (by omega))
  refine P_callS (M := M_CM_areAlike) (pc := 18) (as := [.ref (b + 19 + 1 + p), .ref (b + 19 + 1 + q)]) d_CM_areAlike_18 co_Rows_alike L_CM_306 sm_Rows_alike (s_Rows_alike (by decide) (by decide) f1e f2e) rfl ⟨by decide, by decide⟩ ⟨by decide, by decide⟩ (by exact le_b rfl) ?_ _ rfl
  rintro _ u ⟨⟨v3, rfl⟩, eu⟩
  subst u
  show PW _ _ _ _ _ _ (21, [(0, .ref 0), (1, .int (nI p)), (2, .int (nI q))], [.int (bi v3)], w)
  exact P_zret d_CM_areAlike_21 rfl (nar_bi _) (le_b rfl) (le_b rfl) ⟨⟨_, rfl⟩, hI, Fr.rf⟩
theorem s_CM_areInLine {G : pG} {w : pW} (hG : GO G) (hI : I w) (p : Nat) (hp : p < 8) (q : Nat) (hq : q < 8) (s : Nat) (hs : s < 8) : PM G M_CM_areInLine 1 0 0 [.ref 0, .int (nI p), .int (nI q), .int (nI s)] w (fun r w' => (∃ v, r = some (.int (bi v))) ∧ I w' ∧ Fr SC w w') := by
  refine PM_of pn_CM_areInLine (le_b rfl) ?_
  show PW _ _ _ _ _ _ (0, [(0, .ref 0), (1, .int (nI p)), (2, .int (nI q)), (3, .int (nI s))], [], w)
  obtain ⟨b, hb, e0⟩ := hI.cm
  obtain ⟨hb1, hb2⟩ := pl_rng hb
  obtain ⟨lc, qc, mc, pc, eb, hlc, hqc, hmc, hpc⟩ := hI.pl hb
  refine P_aload_n d_CM_areInLine_0 rfl ?_
  refine P_getf (i := 0) d_CM_areInLine_1 ok_CM (by decide) L_CM_12 e0 rfl ?_
  refine P_getfN (i := 2) d_CM_areInLine_4 ok_Plane (by decide) L_CM_163 eb rfl ?_
  refine P_iload_n d_CM_areInLine_7 rfl ?_
  refine P_aald (j := p) (q := b + 19 + 1 + p) d_CM_areInLine_8 (hI.ps hb) rfl (ix_nI (by omega)) (by omega) (rows_at (by omega)) ?_
  refine P_aload_n d_CM_areInLine_9 rfl ?_
  refine P_getf (i := 0) d_CM_areInLine_10 ok_CM (by decide) L_CM_12 e0 rfl ?_
  refine P_getfN (i := 2) d_CM_areInLine_13 ok_Plane (by decide) L_CM_163 eb rfl ?_
  refine P_iload_n d_CM_areInLine_16 rfl ?_
  refine P_aald (j := q) (q := b + 19 + 1 + q) d_CM_areInLine_17 (hI.ps hb) rfl (ix_nI (by omega)) (by omega) (rows_at (by omega)) ?_
  refine P_aload_n d_CM_areInLine_18 rfl ?_
  refine P_getf (i := 0) d_CM_areInLine_19 ok_CM (by decide) L_CM_12 e0 rfl ?_
  refine P_getfN (i := 2) d_CM_areInLine_22 ok_Plane (by decide) L_CM_163 eb rfl ?_
  refine P_iload_n d_CM_areInLine_25 rfl ?_
  refine P_aald (j := s) (q := b + 19 + 1 + s) d_CM_areInLine_26 (hI.ps hb) rfl (ix_nI (by omega)) (by omega) (rows_at (by omega)) ?_
  obtain ⟨f1, f1e⟩ := hI.row (r := b + 19 + 1 + p) (by omega) (Kc_p hb (by omega))
  obtain ⟨f2, f2e⟩ := hI.row (r := b + 19 + 1 + q) (by omega) (Kc_p hb (by omega))
  obtain ⟨f3, f3e⟩ := hI.row (r := b + 19 + 1 + s) (by omega) (Kc_p hb (by omega))
  refine P_callS (M := M_CM_areInLine) (pc := 27) (as := [.ref (b + 19 + 1 + p), .ref (b + 19 + 1 + q), .ref (b + 19 + 1 + s)]) d_CM_areInLine_27 co_Rows_determinant L_CM_401 sm_Rows_determinant (s_Rows_determinant f1e f2e f3e) rfl ⟨by decide, by decide⟩ ⟨by decide, by decide⟩ (by exact le_b rfl) ?_ _ rfl
  rintro _ u ⟨⟨v4, rfl⟩, eu⟩
  subst u
  show PW _ _ _ _ _ _ (30, [(0, .ref 0), (1, .int (nI p)), (2, .int (nI q)), (3, .int (nI s))], [.long v4], w)
  refine P_lconst (v := 0) d_CM_areInLine_30 (by decide) ?_
  refine P_lcmp d_CM_areInLine_31 ?_
  refine P_if_ne 39 d_CM_areInLine_32 (by decide) (fun c5 => ?_) (fun c5 => ?_)
  · refine P_iconst (v := 0) d_CM_areInLine_39 (by decide) ?_
    exact P_zret d_CM_areInLine_40 rfl rfl (le_b rfl) (le_b rfl) ⟨⟨false, rfl⟩, hI, Fr.rf⟩
  · refine P_iconst (v := 1) d_CM_areInLine_35 (by decide) ?_
    refine P_goto 40 d_CM_areInLine_36 (by decide) ?_
    exact P_zret d_CM_areInLine_40 rfl rfl (le_b rfl) (le_b rfl) ⟨⟨true, rfl⟩, hI, Fr.rf⟩
theorem s_CM_hasThreeAlike {G : pG} {w : pW} (hG : GO G) (hI : I w) (p : Nat) (hp : p < 8) (q : Nat) (hq : q < 8) (s : Nat) (hs : s < 8) (t : Nat) (ht : t < 8) : PM G M_CM_hasThreeAlike 2 0 0 [.ref 0, .int (nI p), .int (nI q), .int (nI s), .int (nI t)] w (fun r w' => (∃ v, r = some (.int (bi v))) ∧ I w' ∧ Fr SC w w') := by
  refine PM_of pn_CM_hasThreeAlike (le_b rfl) ?_
  show PW _ _ _ _ _ _ (0, [(0, .ref 0), (1, .int (nI p)), (2, .int (nI q)), (3, .int (nI s)), (4, .int (nI t))], [], w)
  obtain ⟨b, hb, e0⟩ := hI.cm
  obtain ⟨hb1, hb2⟩ := pl_rng hb
  obtain ⟨lc, qc, mc, pc, eb, hlc, hqc, hmc, hpc⟩ := hI.pl hb
  refine P_aload_n d_CM_hasThreeAlike_0 rfl ?_
  refine P_iload_n d_CM_hasThreeAlike_1 rfl ?_
  refine P_iload_n d_CM_hasThreeAlike_2 rfl ?_
  refine P_callV (M := M_CM_hasThreeAlike) (pc := 3) (as := [.int (nI p), .int (nI q)]) (b := 0) d_CM_hasThreeAlike_3 co_CM_areAlike ok_CM e0 L_CM_349 im_CM_areAlike se_CM_areAlike (s_CM_areAlike hG hI p (by omega) q (by omega)) rfl ⟨by decide, by decide⟩ ⟨by decide, by decide⟩ (by exact le_b rfl) ?_ _ rfl
  rintro _ w1 ⟨⟨v1, rfl⟩, hI1, hG1⟩
  have hF1 : Fr SC w w1 := Fr.tr Fr.rf hG1
  show PW _ _ _ _ _ _ (6, [(0, .ref 0), (1, .int (nI p)), (2, .int (nI q)), (3, .int (nI s)), (4, .int (nI t))], [.int (bi v1)], w1)
  refine P_if_eq 34 d_CM_hasThreeAlike_6 (by decide) (fun c2 => ?_) (fun c2 => ?_)
  · refine P_aload_n d_CM_hasThreeAlike_34 rfl ?_
    refine P_iload_n d_CM_hasThreeAlike_35 rfl ?_
    refine P_iload d_CM_hasThreeAlike_36 rfl ?_
    refine P_callV (M := M_CM_hasThreeAlike) (pc := 38) (as := [.int (nI s), .int (nI t)]) (b := 0) d_CM_hasThreeAlike_38 co_CM_areAlike ok_CM ((hF1.2 _ (SC_f (by omega))).trans e0) L_CM_349 im_CM_areAlike se_CM_areAlike (s_CM_areAlike hG hI1 s (by omega) t (by omega)) rfl ⟨by decide, by decide⟩ ⟨by decide, by decide⟩ (by exact le_b rfl) ?_ _ rfl
    rintro _ w3 ⟨⟨v3, rfl⟩, hI3, hG3⟩
    have hF3 : Fr SC w w3 := Fr.tr hF1 hG3
    show PW _ _ _ _ _ _ (41, [(0, .ref 0), (1, .int (nI p)), (2, .int (nI q)), (3, .int (nI s)), (4, .int (nI t))], [.int (bi v3)], w3)
    refine P_if_eq 66 d_CM_hasThreeAlike_41 (by decide) (fun c4 => ?_) (fun c4 => ?_)
    · refine P_iconst (v := 0) d_CM_hasThreeAlike_66 (by decide) ?_
      exact P_zret d_CM_hasThreeAlike_67 rfl rfl (le_b rfl) (le_b rfl) ⟨⟨false, rfl⟩, hI3, hF3⟩
    · refine P_aload_n d_CM_hasThreeAlike_44 rfl ?_
      refine P_iload_n d_CM_hasThreeAlike_45 rfl ?_
      refine P_iload_n d_CM_hasThreeAlike_46 rfl ?_
      refine P_callV (M := M_CM_hasThreeAlike) (pc := 47) (as := [.int (nI p), .int (nI s)]) (b := 0) d_CM_hasThreeAlike_47 co_CM_areAlike ok_CM ((hF3.2 _ (SC_f (by omega))).trans e0) L_CM_349 im_CM_areAlike se_CM_areAlike (s_CM_areAlike hG hI3 p (by omega) s (by omega)) rfl ⟨by decide, by decide⟩ ⟨by decide, by decide⟩ (by exact le_b rfl) ?_ _ rfl
      rintro _ w5 ⟨⟨v5, rfl⟩, hI5, hG5⟩
      have hF5 : Fr SC w w5 := Fr.tr hF3 hG5
      show PW _ _ _ _ _ _ (50, [(0, .ref 0), (1, .int (nI p)), (2, .int (nI q)), (3, .int (nI s)), (4, .int (nI t))], [.int (bi v5)], w5)
      refine P_if_ne 62 d_CM_hasThreeAlike_50 (by decide) (fun c6 => ?_) (fun c6 => ?_)
      · refine P_iconst (v := 1) d_CM_hasThreeAlike_62 (by decide) ?_
        refine P_goto 67 d_CM_hasThreeAlike_63 (by decide) ?_
        exact P_zret d_CM_hasThreeAlike_67 rfl rfl (le_b rfl) (le_b rfl) ⟨⟨true, rfl⟩, hI5, hF5⟩
      · refine P_aload_n d_CM_hasThreeAlike_53 rfl ?_
        refine P_iload_n d_CM_hasThreeAlike_54 rfl ?_
        refine P_iload_n d_CM_hasThreeAlike_55 rfl ?_
        refine P_callV (M := M_CM_hasThreeAlike) (pc := 56) (as := [.int (nI q), .int (nI s)]) (b := 0) d_CM_hasThreeAlike_56 co_CM_areAlike ok_CM ((hF5.2 _ (SC_f (by omega))).trans e0) L_CM_349 im_CM_areAlike se_CM_areAlike (s_CM_areAlike hG hI5 q (by omega) s (by omega)) rfl ⟨by decide, by decide⟩ ⟨by decide, by decide⟩ (by exact le_b rfl) ?_ _ rfl
        rintro _ w7 ⟨⟨v7, rfl⟩, hI7, hG7⟩
        have hF7 : Fr SC w w7 := Fr.tr hF5 hG7
        show PW _ _ _ _ _ _ (59, [(0, .ref 0), (1, .int (nI p)), (2, .int (nI q)), (3, .int (nI s)), (4, .int (nI t))], [.int (bi v7)], w7)
        refine P_if_eq 66 d_CM_hasThreeAlike_59 (by decide) (fun c8 => ?_) (fun c8 => ?_)
        · refine P_iconst (v := 0) d_CM_hasThreeAlike_66 (by decide) ?_
          exact P_zret d_CM_hasThreeAlike_67 rfl rfl (le_b rfl) (le_b rfl) ⟨⟨false, rfl⟩, hI7, hF7⟩
        · refine P_iconst (v := 1) d_CM_hasThreeAlike_62 (by decide) ?_
          refine P_goto 67 d_CM_hasThreeAlike_63 (by decide) ?_
          exact P_zret d_CM_hasThreeAlike_67 rfl rfl (le_b rfl) (le_b rfl) ⟨⟨true, rfl⟩, hI7, hF7⟩
  · refine P_aload_n d_CM_hasThreeAlike_9 rfl ?_
    refine P_iload_n d_CM_hasThreeAlike_10 rfl ?_
    refine P_iload_n d_CM_hasThreeAlike_11 rfl ?_
    refine P_callV (M := M_CM_hasThreeAlike) (pc := 12) (as := [.int (nI p), .int (nI s)]) (b := 0) d_CM_hasThreeAlike_12 co_CM_areAlike ok_CM ((hF1.2 _ (SC_f (by omega))).trans e0) L_CM_349 im_CM_areAlike se_CM_areAlike (s_CM_areAlike hG hI1 p (by omega) s (by omega)) rfl ⟨by decide, by decide⟩ ⟨by decide, by decide⟩ (by exact le_b rfl) ?_ _ rfl
    rintro _ w9 ⟨⟨v9, rfl⟩, hI9, hG9⟩
    have hF9 : Fr SC w w9 := Fr.tr hF1 hG9
    show PW _ _ _ _ _ _ (15, [(0, .ref 0), (1, .int (nI p)), (2, .int (nI q)), (3, .int (nI s)), (4, .int (nI t))], [.int (bi v9)], w9)
    refine P_if_ne 28 d_CM_hasThreeAlike_15 (by decide) (fun c10 => ?_) (fun c10 => ?_)
    · refine P_iconst (v := 1) d_CM_hasThreeAlike_28 (by decide) ?_
      refine P_goto 33 d_CM_hasThreeAlike_29 (by decide) ?_
      exact P_zret d_CM_hasThreeAlike_33 rfl rfl (le_b rfl) (le_b rfl) ⟨⟨true, rfl⟩, hI9, hF9⟩
    · refine P_aload_n d_CM_hasThreeAlike_18 rfl ?_
      refine P_iload_n d_CM_hasThreeAlike_19 rfl ?_
      refine P_iload d_CM_hasThreeAlike_20 rfl ?_
      refine P_callV (M := M_CM_hasThreeAlike) (pc := 22) (as := [.int (nI p), .int (nI t)]) (b := 0) d_CM_hasThreeAlike_22 co_CM_areAlike ok_CM ((hF9.2 _ (SC_f (by omega))).trans e0) L_CM_349 im_CM_areAlike se_CM_areAlike (s_CM_areAlike hG hI9 p (by omega) t (by omega)) rfl ⟨by decide, by decide⟩ ⟨by decide, by decide⟩ (by exact le_b rfl) ?_ _ rfl
      rintro _ w11 ⟨⟨v11, rfl⟩, hI11, hG11⟩
      have hF11 : Fr SC w w11 := Fr.tr hF9 hG11
      show PW _ _ _ _ _ _ (25, [(0, .ref 0), (1, .int (nI p)), (2, .int (nI q)), (3, .int (nI s)), (4, .int (nI t))], [.int (bi v11)], w11)
      refine P_if_eq 32 d_CM_hasThreeAlike_25 (by decide) (fun c12 => ?_) (fun c12 => ?_)
      · refine P_iconst (v := 0) d_CM_hasThreeAlike_32 (by decide) ?_
        exact P_zret d_CM_hasThreeAlike_33 rfl rfl (le_b rfl) (le_b rfl) ⟨⟨false, rfl⟩, hI11, hF11⟩
      · refine P_iconst (v := 1) d_CM_hasThreeAlike_28 (by decide) ?_
        refine P_goto 33 d_CM_hasThreeAlike_29 (by decide) ?_
        exact P_zret d_CM_hasThreeAlike_33 rfl rfl (le_b rfl) (le_b rfl) ⟨⟨true, rfl⟩, hI11, hF11⟩
theorem s_CM_axisOutside {G : pG} {w : pW} (hG : GO G) (hI : I w) (p : Nat) (hp : p < 8) (q : Nat) (hq : q < 8) (s : Nat) (hs : s < 8) : PM G M_CM_axisOutside 4 0 0 [.ref 0, .int (nI p), .int (nI q), .int (nI s)] w (fun r w' => (∃ v, v < 3 ∧ r = some (.int (nI v))) ∧ I w' ∧ Fr SC w w') := by
  refine PM_of pn_CM_axisOutside (le_b rfl) ?_
  show PW _ _ _ _ _ _ (0, [(0, .ref 0), (1, .int (nI p)), (2, .int (nI q)), (3, .int (nI s))], [], w)
  obtain ⟨b, hb, e0⟩ := hI.cm
  obtain ⟨hb1, hb2⟩ := pl_rng hb
  obtain ⟨lc, qc, mc, pc, eb, hlc, hqc, hmc, hpc⟩ := hI.pl hb
  refine P_aload_n d_CM_axisOutside_0 rfl ?_
  refine P_getf (i := 0) d_CM_axisOutside_1 ok_CM (by decide) L_CM_12 e0 rfl ?_
  refine P_getfN (i := 2) d_CM_axisOutside_4 ok_Plane (by decide) L_CM_163 eb rfl ?_
  refine P_iload_n d_CM_axisOutside_7 rfl ?_
  refine P_aald (j := p) (q := b + 19 + 1 + p) d_CM_axisOutside_8 (hI.ps hb) rfl (ix_nI (by omega)) (by omega) (rows_at (by omega)) ?_
  refine P_aload_n d_CM_axisOutside_9 rfl ?_
  refine P_getf (i := 0) d_CM_axisOutside_10 ok_CM (by decide) L_CM_12 e0 rfl ?_
  refine P_getfN (i := 2) d_CM_axisOutside_13 ok_Plane (by decide) L_CM_163 eb rfl ?_
  refine P_iload_n d_CM_axisOutside_16 rfl ?_
  refine P_aald (j := q) (q := b + 19 + 1 + q) d_CM_axisOutside_17 (hI.ps hb) rfl (ix_nI (by omega)) (by omega) (rows_at (by omega)) ?_
  refine P_aload_n d_CM_axisOutside_18 rfl ?_
  refine P_getf (i := 14) d_CM_axisOutside_19 ok_CM (by decide) L_CM_84 e0 rfl ?_
  obtain ⟨f1, f1e⟩ := hI.row (r := b + 19 + 1 + p) (by omega) (Kc_p hb (by omega))
  obtain ⟨f2, f2e⟩ := hI.row (r := b + 19 + 1 + q) (by omega) (Kc_p hb (by omega))
  obtain ⟨f3, f3e⟩ := hI.row (r := 455) (by decide) kc_455
  refine P_callS (M := M_CM_axisOutside) (pc := 22) (as := [.ref (b + 19 + 1 + p), .ref (b + 19 + 1 + q), .ref 455]) d_CM_axisOutside_22 co_Rows_through L_CM_324 sm_Rows_through (s_Rows_through f1e f2e f3e (by decide) (by omega) (by omega)) rfl ⟨by decide, by decide⟩ ⟨by decide, by decide⟩ (by exact le_b rfl) ?_ _ rfl
  rintro _ w4 ⟨⟨v4, rfl⟩, g4, e4⟩
  have s4 := w_s e4
  have hI4 : I w4 := hI.setL e4 kc_455
  have hF4 : Fr SC w w4 := Fr.set Fr.rf e4 (SC_t (by omega))
  show PW _ _ _ _ _ _ (25, [(0, .ref 0), (1, .int (nI p)), (2, .int (nI q)), (3, .int (nI s))], [.int (bi v4)], w4)
  refine P_if_ne 54 d_CM_axisOutside_25 (by decide) (fun c5 => ?_) (fun c5 => ?_)
  · refine P_iconst (v := 0) d_CM_axisOutside_54 (by decide) ?_
    refine P_istore d_CM_axisOutside_55 (by decide) rfl ?_
    refine PW_ind (σ := pW) (2) (fun jj ss => I (ss) ∧ Fr SC w (ss)) (fun jj ss => (57, [(0, .ref 0), (1, .int (nI p)), (2, .int (nI q)), (3, .int (nI s)), (4, .int (nI jj))], [], ss)) ?_ ?_ 0 (w4) (by omega) ⟨hI4, hF4⟩
    · rintro uj6 ⟨hIj6, hFj6⟩
      show PW _ _ _ _ _ _ (57, [(0, .ref 0), (1, .int (nI p)), (2, .int (nI q)), (3, .int (nI s)), (4, .int 2)], [], uj6)
      refine P_iload d_CM_axisOutside_57 rfl ?_
      refine P_iconst (v := 2) d_CM_axisOutside_59 (by decide) ?_
      refine P_icmp_ge 84 d_CM_axisOutside_60 (by decide) (fun _ => ?_) (fun h => absurd (by decide) h)
      refine P_iconst (v := 2) d_CM_axisOutside_84 (by decide) ?_
      exact P_iret d_CM_axisOutside_85 rfl (le_b rfl) (le_b rfl) ⟨⟨2, by omega, rfl⟩, hIj6, hFj6⟩
    · rintro j6 uj6 hj6 ⟨hIj6, hFj6⟩ kkj6
      show PW _ _ _ _ _ _ (57, [(0, .ref 0), (1, .int (nI p)), (2, .int (nI q)), (3, .int (nI s)), (4, .int (nI j6))], [], uj6)
      refine P_iload d_CM_axisOutside_57 rfl ?_
      refine P_iconst (v := 2) d_CM_axisOutside_59 (by decide) ?_
      refine P_icmp_ge 84 d_CM_axisOutside_60 (by decide) (fun h => absurd h (nI_geF (a := j6) (b := 2) (by omega) (by omega))) (fun _ => ?_)
      refine P_aload_n d_CM_axisOutside_63 rfl ?_
      refine P_getf (i := 14) d_CM_axisOutside_64 ok_CM (by decide) L_CM_84 ((hFj6.2 _ (SC_f (by omega))).trans e0) rfl ?_
      refine P_iload d_CM_axisOutside_67 rfl ?_
      obtain ⟨f7, f7e⟩ := hIj6.row (r := 455) (by decide) kc_455
      refine P_lald (j := j6) d_CM_axisOutside_69 f7e (ix_nI (by omega)) (by omega) ?_
      refine P_lconst (v := 0) d_CM_axisOutside_70 (by decide) ?_
      refine P_lcmp d_CM_axisOutside_71 ?_
      refine P_if_eq 78 d_CM_axisOutside_72 (by decide) (fun c8 => ?_) (fun c8 => ?_)
      · refine P_iinc (v := nI (j6 + 1)) d_CM_axisOutside_78 (by decide) rfl (nI_add j6 1) rfl ?_
        refine P_goto 57 d_CM_axisOutside_81 (by decide) ?_
        exact kkj6 (uj6) ⟨hIj6, hFj6⟩
      · refine P_iload d_CM_axisOutside_75 rfl ?_
        exact P_iret d_CM_axisOutside_77 rfl (le_b rfl) (le_b rfl) ⟨⟨j6, by omega, rfl⟩, hIj6, hFj6⟩
  · refine P_aload_n d_CM_axisOutside_28 rfl ?_
    refine P_getf (i := 0) d_CM_axisOutside_29 ok_CM (by decide) L_CM_12 ((hF4.2 _ (SC_f (by omega))).trans e0) rfl ?_
    refine P_getfN (i := 2) d_CM_axisOutside_32 ok_Plane (by decide) L_CM_163 ((hF4.2 _ (SC_f (by omega))).trans eb) rfl ?_
    refine P_iload_n d_CM_axisOutside_35 rfl ?_
    refine P_aald (j := p) (q := b + 19 + 1 + p) d_CM_axisOutside_36 (hI4.ps hb) rfl (ix_nI (by omega)) (by omega) (rows_at (by omega)) ?_
    refine P_aload_n d_CM_axisOutside_37 rfl ?_
    refine P_getf (i := 0) d_CM_axisOutside_38 ok_CM (by decide) L_CM_12 ((hF4.2 _ (SC_f (by omega))).trans e0) rfl ?_
    refine P_getfN (i := 2) d_CM_axisOutside_41 ok_Plane (by decide) L_CM_163 ((hF4.2 _ (SC_f (by omega))).trans eb) rfl ?_
    refine P_iload_n d_CM_axisOutside_44 rfl ?_
    refine P_aald (j := s) (q := b + 19 + 1 + s) d_CM_axisOutside_45 (hI4.ps hb) rfl (ix_nI (by omega)) (by omega) (rows_at (by omega)) ?_
    refine P_aload_n d_CM_axisOutside_46 rfl ?_
    refine P_getf (i := 14) d_CM_axisOutside_47 ok_CM (by decide) L_CM_84 ((hF4.2 _ (SC_f (by omega))).trans e0) rfl ?_
    obtain ⟨f9, f9e⟩ := hI4.row (r := b + 19 + 1 + p) (by omega) (Kc_p hb (by omega))
    obtain ⟨f10, f10e⟩ := hI4.row (r := b + 19 + 1 + s) (by omega) (Kc_p hb (by omega))
    refine P_callS (M := M_CM_axisOutside) (pc := 50) (as := [.ref (b + 19 + 1 + p), .ref (b + 19 + 1 + s), .ref 455]) d_CM_axisOutside_50 co_Rows_through L_CM_324 sm_Rows_through (s_Rows_through f9e f10e s4 (by decide) (by omega) (by omega)) rfl ⟨by decide, by decide⟩ ⟨by decide, by decide⟩ (by exact le_b rfl) ?_ _ rfl
    rintro _ w11 ⟨⟨v11, rfl⟩, g11, e11⟩
    have s11 := w_s e11
    have hI11 : I w11 := hI4.setL e11 kc_455
    have hF11 : Fr SC w w11 := Fr.set hF4 e11 (SC_t (by omega))
    show PW _ _ _ _ _ _ (53, [(0, .ref 0), (1, .int (nI p)), (2, .int (nI q)), (3, .int (nI s))], [.int (bi v11)], w11)
    refine P_pop d_CM_axisOutside_53 rfl ?_
    refine P_iconst (v := 0) d_CM_axisOutside_54 (by decide) ?_
    refine P_istore d_CM_axisOutside_55 (by decide) rfl ?_
    refine PW_ind (σ := pW) (2) (fun jj ss => I (ss) ∧ Fr SC w (ss)) (fun jj ss => (57, [(0, .ref 0), (1, .int (nI p)), (2, .int (nI q)), (3, .int (nI s)), (4, .int (nI jj))], [], ss)) ?_ ?_ 0 (w11) (by omega) ⟨hI11, hF11⟩
    · rintro uj12 ⟨hIj12, hFj12⟩
      show PW _ _ _ _ _ _ (57, [(0, .ref 0), (1, .int (nI p)), (2, .int (nI q)), (3, .int (nI s)), (4, .int 2)], [], uj12)
      refine P_iload d_CM_axisOutside_57 rfl ?_
      refine P_iconst (v := 2) d_CM_axisOutside_59 (by decide) ?_
      refine P_icmp_ge 84 d_CM_axisOutside_60 (by decide) (fun _ => ?_) (fun h => absurd (by decide) h)
      refine P_iconst (v := 2) d_CM_axisOutside_84 (by decide) ?_
      exact P_iret d_CM_axisOutside_85 rfl (le_b rfl) (le_b rfl) ⟨⟨2, by omega, rfl⟩, hIj12, hFj12⟩
    · rintro j12 uj12 hj12 ⟨hIj12, hFj12⟩ kkj12
      show PW _ _ _ _ _ _ (57, [(0, .ref 0), (1, .int (nI p)), (2, .int (nI q)), (3, .int (nI s)), (4, .int (nI j12))], [], uj12)
      refine P_iload d_CM_axisOutside_57 rfl ?_
      refine P_iconst (v := 2) d_CM_axisOutside_59 (by decide) ?_
      refine P_icmp_ge 84 d_CM_axisOutside_60 (by decide) (fun h => absurd h (nI_geF (a := j12) (b := 2) (by omega) (by omega))) (fun _ => ?_)
      refine P_aload_n d_CM_axisOutside_63 rfl ?_
      refine P_getf (i := 14) d_CM_axisOutside_64 ok_CM (by decide) L_CM_84 ((hFj12.2 _ (SC_f (by omega))).trans e0) rfl ?_
      refine P_iload d_CM_axisOutside_67 rfl ?_
      obtain ⟨f13, f13e⟩ := hIj12.row (r := 455) (by decide) kc_455
      refine P_lald (j := j12) d_CM_axisOutside_69 f13e (ix_nI (by omega)) (by omega) ?_
      refine P_lconst (v := 0) d_CM_axisOutside_70 (by decide) ?_
      refine P_lcmp d_CM_axisOutside_71 ?_
      refine P_if_eq 78 d_CM_axisOutside_72 (by decide) (fun c14 => ?_) (fun c14 => ?_)
      · refine P_iinc (v := nI (j12 + 1)) d_CM_axisOutside_78 (by decide) rfl (nI_add j12 1) rfl ?_
        refine P_goto 57 d_CM_axisOutside_81 (by decide) ?_
        exact kkj12 (uj12) ⟨hIj12, hFj12⟩
      · refine P_iload d_CM_axisOutside_75 rfl ?_
        exact P_iret d_CM_axisOutside_77 rfl (le_b rfl) (le_b rfl) ⟨⟨j12, by omega, rfl⟩, hIj12, hFj12⟩
theorem s_CM_span {G : pG} {w : pW} (hG : GO G) (hI : I w) (a : Nat) (ha : a < 3) (p : Nat) (hp : p < 8) (q : Nat) (hq : q < 8) : PM G M_CM_span 0 0 0 [.ref 0, .int (nI a), .int (nI p), .int (nI q)] w (fun r w' => (∃ v, r = some (.long v)) ∧ I w' ∧ Fr SC w w') := by
  refine PM_of pn_CM_span (le_b rfl) ?_
  show PW _ _ _ _ _ _ (0, [(0, .ref 0), (1, .int (nI a)), (2, .int (nI p)), (3, .int (nI q))], [], w)
  obtain ⟨b, hb, e0⟩ := hI.cm
  obtain ⟨hb1, hb2⟩ := pl_rng hb
  obtain ⟨lc, qc, mc, pc, eb, hlc, hqc, hmc, hpc⟩ := hI.pl hb
  refine P_iload_n d_CM_span_0 rfl ?_
  refine P_iconst (v := 2) d_CM_span_1 (by decide) ?_
  refine P_icmp_ne 9 d_CM_span_2 (by decide) (fun c1 => ?_) (fun c1 => ?_)
  · have ic1 : a ≠ 2 := fun q => c1 (congrArg nI q)
    refine P_iload_n d_CM_span_9 rfl ?_
    refine P_iconst (v := 1) d_CM_span_10 (by decide) ?_
    refine P_iaddN (a := a) (b := 1) d_CM_span_11 ?_
    show PW _ _ _ _ _ _ (12, [(0, .ref 0), (1, .int (nI a)), (2, .int (nI p)), (3, .int (nI q))], [.int (nI (a + 1))], w)
    refine P_istore d_CM_span_12 (by decide) rfl ?_
    refine P_iload_n d_CM_span_14 rfl ?_
    refine P_if_ne 22 d_CM_span_15 (by decide) (fun c2 => ?_) (fun c2 => ?_)
    · have ic2 : a ≠ 0 := fun q => c2 (congrArg nI q)
      refine P_iload_n d_CM_span_22 rfl ?_
      refine P_iconst (v := 1) d_CM_span_23 (by decide) ?_
      refine P_isubN (a := a) (b := 1) d_CM_span_24 (by omega) ?_
      show PW _ _ _ _ _ _ (25, [(0, .ref 0), (1, .int (nI a)), (2, .int (nI p)), (3, .int (nI q)), (4, .int (nI (a + 1)))], [.int (nI (a - 1))], w)
      refine P_istore d_CM_span_25 (by decide) rfl ?_
      refine P_aload_n d_CM_span_27 rfl ?_
      refine P_getf (i := 0) d_CM_span_28 ok_CM (by decide) L_CM_12 e0 rfl ?_
      refine P_getfN (i := 2) d_CM_span_31 ok_Plane (by decide) L_CM_163 eb rfl ?_
      refine P_iload_n d_CM_span_34 rfl ?_
      refine P_aald (j := p) (q := b + 19 + 1 + p) d_CM_span_35 (hI.ps hb) rfl (ix_nI (by omega)) (by omega) (rows_at (by omega)) ?_
      refine P_astore d_CM_span_36 (by decide) rfl ?_
      refine P_aload_n d_CM_span_38 rfl ?_
      refine P_getf (i := 0) d_CM_span_39 ok_CM (by decide) L_CM_12 e0 rfl ?_
      refine P_getfN (i := 2) d_CM_span_42 ok_Plane (by decide) L_CM_163 eb rfl ?_
      refine P_iload_n d_CM_span_45 rfl ?_
      refine P_aald (j := q) (q := b + 19 + 1 + q) d_CM_span_46 (hI.ps hb) rfl (ix_nI (by omega)) (by omega) (rows_at (by omega)) ?_
      refine P_astore d_CM_span_47 (by decide) rfl ?_
      refine P_aload d_CM_span_49 rfl ?_
      refine P_iload d_CM_span_51 rfl ?_
      obtain ⟨f3, f3e⟩ := hI.row (r := b + 19 + 1 + p) (by omega) (Kc_p hb (by omega))
      refine P_lald (j := a + 1) d_CM_span_53 f3e (ix_nI (by omega)) (by omega) ?_
      refine P_aload d_CM_span_54 rfl ?_
      refine P_iload d_CM_span_56 rfl ?_
      obtain ⟨f4, f4e⟩ := hI.row (r := b + 19 + 1 + q) (by omega) (Kc_p hb (by omega))
      refine P_lald (j := a - 1) d_CM_span_58 f4e (ix_nI (by omega)) (by omega) ?_
      refine P_lmul d_CM_span_59 ?_
      refine P_aload d_CM_span_60 rfl ?_
      refine P_iload d_CM_span_62 rfl ?_
      refine P_lald (j := a - 1) d_CM_span_64 f3e (ix_nI (by omega)) (by omega) ?_
      refine P_aload d_CM_span_65 rfl ?_
      refine P_iload d_CM_span_67 rfl ?_
      refine P_lald (j := a + 1) d_CM_span_69 f4e (ix_nI (by omega)) (by omega) ?_
      refine P_lmul d_CM_span_70 ?_
      refine P_lsub d_CM_span_71 ?_
      generalize ((f3 (a + 1)) * (f4 (a - 1))) - ((f3 (a - 1)) * (f4 (a + 1))) = zz5
      show PW _ _ _ _ _ _ (72, [(0, .ref 0), (1, .int (nI a)), (2, .int (nI p)), (3, .int (nI q)), (4, .int (nI (a + 1))), (5, .int (nI (a - 1))), (6, .ref (b + 19 + 1 + p)), (7, .ref (b + 19 + 1 + q))], [.long zz5], w)
      exact P_lret d_CM_span_72 rfl (le_b rfl) (le_b rfl) ⟨⟨_, rfl⟩, hI, Fr.rf⟩
    · have ic2 : a = 0 := (nI_eq (by omega) (by omega)).mp c2
      refine P_iconst (v := 2) d_CM_span_18 (by decide) ?_
      refine P_goto 25 d_CM_span_19 (by decide) ?_
      refine P_istore d_CM_span_25 (by decide) rfl ?_
      refine P_aload_n d_CM_span_27 rfl ?_
      refine P_getf (i := 0) d_CM_span_28 ok_CM (by decide) L_CM_12 e0 rfl ?_
      refine P_getfN (i := 2) d_CM_span_31 ok_Plane (by decide) L_CM_163 eb rfl ?_
      refine P_iload_n d_CM_span_34 rfl ?_
      refine P_aald (j := p) (q := b + 19 + 1 + p) d_CM_span_35 (hI.ps hb) rfl (ix_nI (by omega)) (by omega) (rows_at (by omega)) ?_
      refine P_astore d_CM_span_36 (by decide) rfl ?_
      refine P_aload_n d_CM_span_38 rfl ?_
      refine P_getf (i := 0) d_CM_span_39 ok_CM (by decide) L_CM_12 e0 rfl ?_
      refine P_getfN (i := 2) d_CM_span_42 ok_Plane (by decide) L_CM_163 eb rfl ?_
      refine P_iload_n d_CM_span_45 rfl ?_
      refine P_aald (j := q) (q := b + 19 + 1 + q) d_CM_span_46 (hI.ps hb) rfl (ix_nI (by omega)) (by omega) (rows_at (by omega)) ?_
      refine P_astore d_CM_span_47 (by decide) rfl ?_
      refine P_aload d_CM_span_49 rfl ?_
      refine P_iload d_CM_span_51 rfl ?_
      obtain ⟨f6, f6e⟩ := hI.row (r := b + 19 + 1 + p) (by omega) (Kc_p hb (by omega))
      refine P_lald (j := a + 1) d_CM_span_53 f6e (ix_nI (by omega)) (by omega) ?_
      refine P_aload d_CM_span_54 rfl ?_
      refine P_iload d_CM_span_56 rfl ?_
      obtain ⟨f7, f7e⟩ := hI.row (r := b + 19 + 1 + q) (by omega) (Kc_p hb (by omega))
      refine P_lald (j := 2) d_CM_span_58 f7e ⟨by decide, by decide⟩ (by decide) ?_
      refine P_lmul d_CM_span_59 ?_
      refine P_aload d_CM_span_60 rfl ?_
      refine P_iload d_CM_span_62 rfl ?_
      refine P_lald (j := 2) d_CM_span_64 f6e ⟨by decide, by decide⟩ (by decide) ?_
      refine P_aload d_CM_span_65 rfl ?_
      refine P_iload d_CM_span_67 rfl ?_
      refine P_lald (j := a + 1) d_CM_span_69 f7e (ix_nI (by omega)) (by omega) ?_
      refine P_lmul d_CM_span_70 ?_
      refine P_lsub d_CM_span_71 ?_
      exact P_lret d_CM_span_72 rfl (le_b rfl) (le_b rfl) ⟨⟨_, rfl⟩, hI, Fr.rf⟩
  · have ic1 : a = 2 := (nI_eq (by omega) (by omega)).mp c1
    refine P_iconst (v := 0) d_CM_span_5 (by decide) ?_
    refine P_goto 12 d_CM_span_6 (by decide) ?_
    refine P_istore d_CM_span_12 (by decide) rfl ?_
    refine P_iload_n d_CM_span_14 rfl ?_
    refine P_if_ne 22 d_CM_span_15 (by decide) (fun c8 => ?_) (fun c8 => ?_)
    · have ic8 : a ≠ 0 := fun q => c8 (congrArg nI q)
      refine P_iload_n d_CM_span_22 rfl ?_
      refine P_iconst (v := 1) d_CM_span_23 (by decide) ?_
      refine P_isubN (a := a) (b := 1) d_CM_span_24 (by omega) ?_
      show PW _ _ _ _ _ _ (25, [(0, .ref 0), (1, .int (nI a)), (2, .int (nI p)), (3, .int (nI q)), (4, .int 0)], [.int (nI (a - 1))], w)
      refine P_istore d_CM_span_25 (by decide) rfl ?_
      refine P_aload_n d_CM_span_27 rfl ?_
      refine P_getf (i := 0) d_CM_span_28 ok_CM (by decide) L_CM_12 e0 rfl ?_
      refine P_getfN (i := 2) d_CM_span_31 ok_Plane (by decide) L_CM_163 eb rfl ?_
      refine P_iload_n d_CM_span_34 rfl ?_
      refine P_aald (j := p) (q := b + 19 + 1 + p) d_CM_span_35 (hI.ps hb) rfl (ix_nI (by omega)) (by omega) (rows_at (by omega)) ?_
      refine P_astore d_CM_span_36 (by decide) rfl ?_
      refine P_aload_n d_CM_span_38 rfl ?_
      refine P_getf (i := 0) d_CM_span_39 ok_CM (by decide) L_CM_12 e0 rfl ?_
      refine P_getfN (i := 2) d_CM_span_42 ok_Plane (by decide) L_CM_163 eb rfl ?_
      refine P_iload_n d_CM_span_45 rfl ?_
      refine P_aald (j := q) (q := b + 19 + 1 + q) d_CM_span_46 (hI.ps hb) rfl (ix_nI (by omega)) (by omega) (rows_at (by omega)) ?_
      refine P_astore d_CM_span_47 (by decide) rfl ?_
      refine P_aload d_CM_span_49 rfl ?_
      refine P_iload d_CM_span_51 rfl ?_
      obtain ⟨f9, f9e⟩ := hI.row (r := b + 19 + 1 + p) (by omega) (Kc_p hb (by omega))
      refine P_lald (j := 0) d_CM_span_53 f9e ⟨by decide, by decide⟩ (by decide) ?_
      refine P_aload d_CM_span_54 rfl ?_
      refine P_iload d_CM_span_56 rfl ?_
      obtain ⟨f10, f10e⟩ := hI.row (r := b + 19 + 1 + q) (by omega) (Kc_p hb (by omega))
      refine P_lald (j := a - 1) d_CM_span_58 f10e (ix_nI (by omega)) (by omega) ?_
      refine P_lmul d_CM_span_59 ?_
      refine P_aload d_CM_span_60 rfl ?_
      refine P_iload d_CM_span_62 rfl ?_
      refine P_lald (j := a - 1) d_CM_span_64 f9e (ix_nI (by omega)) (by omega) ?_
      refine P_aload d_CM_span_65 rfl ?_
      refine P_iload d_CM_span_67 rfl ?_
      refine P_lald (j := 0) d_CM_span_69 f10e ⟨by decide, by decide⟩ (by decide) ?_
      refine P_lmul d_CM_span_70 ?_
      refine P_lsub d_CM_span_71 ?_
      exact P_lret d_CM_span_72 rfl (le_b rfl) (le_b rfl) ⟨⟨_, rfl⟩, hI, Fr.rf⟩
    · have ic8 : a = 0 := (nI_eq (by omega) (by omega)).mp c8
      refine P_iconst (v := 2) d_CM_span_18 (by decide) ?_
      refine P_goto 25 d_CM_span_19 (by decide) ?_
      refine P_istore d_CM_span_25 (by decide) rfl ?_
      refine P_aload_n d_CM_span_27 rfl ?_
      refine P_getf (i := 0) d_CM_span_28 ok_CM (by decide) L_CM_12 e0 rfl ?_
      refine P_getfN (i := 2) d_CM_span_31 ok_Plane (by decide) L_CM_163 eb rfl ?_
      refine P_iload_n d_CM_span_34 rfl ?_
      refine P_aald (j := p) (q := b + 19 + 1 + p) d_CM_span_35 (hI.ps hb) rfl (ix_nI (by omega)) (by omega) (rows_at (by omega)) ?_
      refine P_astore d_CM_span_36 (by decide) rfl ?_
      refine P_aload_n d_CM_span_38 rfl ?_
      refine P_getf (i := 0) d_CM_span_39 ok_CM (by decide) L_CM_12 e0 rfl ?_
      refine P_getfN (i := 2) d_CM_span_42 ok_Plane (by decide) L_CM_163 eb rfl ?_
      refine P_iload_n d_CM_span_45 rfl ?_
      refine P_aald (j := q) (q := b + 19 + 1 + q) d_CM_span_46 (hI.ps hb) rfl (ix_nI (by omega)) (by omega) (rows_at (by omega)) ?_
      refine P_astore d_CM_span_47 (by decide) rfl ?_
      refine P_aload d_CM_span_49 rfl ?_
      refine P_iload d_CM_span_51 rfl ?_
      obtain ⟨f11, f11e⟩ := hI.row (r := b + 19 + 1 + p) (by omega) (Kc_p hb (by omega))
      refine P_lald (j := 0) d_CM_span_53 f11e ⟨by decide, by decide⟩ (by decide) ?_
      refine P_aload d_CM_span_54 rfl ?_
      refine P_iload d_CM_span_56 rfl ?_
      obtain ⟨f12, f12e⟩ := hI.row (r := b + 19 + 1 + q) (by omega) (Kc_p hb (by omega))
      refine P_lald (j := 2) d_CM_span_58 f12e ⟨by decide, by decide⟩ (by decide) ?_
      refine P_lmul d_CM_span_59 ?_
      refine P_aload d_CM_span_60 rfl ?_
      refine P_iload d_CM_span_62 rfl ?_
      refine P_lald (j := 2) d_CM_span_64 f11e ⟨by decide, by decide⟩ (by decide) ?_
      refine P_aload d_CM_span_65 rfl ?_
      refine P_iload d_CM_span_67 rfl ?_
      refine P_lald (j := 0) d_CM_span_69 f12e ⟨by decide, by decide⟩ (by decide) ?_
      refine P_lmul d_CM_span_70 ?_
      refine P_lsub d_CM_span_71 ?_
      exact P_lret d_CM_span_72 rfl (le_b rfl) (le_b rfl) ⟨⟨_, rfl⟩, hI, Fr.rf⟩
theorem s_CM_isFar {G : pG} {w : pW} (hG : GO G) (hI : I w) (p : Int32) : PM G M_CM_isFar 1 0 0 [.ref 0, .int p] w (fun r w' => (∃ v, r = some (.int (bi v))) ∧ I w' ∧ Fr SC w w') := by
  refine PM_of pn_CM_isFar (le_b rfl) ?_
  show PW _ _ _ _ _ _ (0, [(0, .ref 0), (1, .int p)], [], w)
  obtain ⟨b, hb, e0⟩ := hI.cm
  obtain ⟨hb1, hb2⟩ := pl_rng hb
  obtain ⟨lc, qc, mc, pc, eb, hlc, hqc, hmc, hpc⟩ := hI.pl hb
  refine P_aload_n d_CM_isFar_0 rfl ?_
  refine P_getf (i := 0) d_CM_isFar_1 ok_CM (by decide) L_CM_12 e0 rfl ?_
  refine P_iload_n d_CM_isFar_4 rfl ?_
  refine P_callV (M := M_CM_isFar) (pc := 5) (as := [.int p]) (b := b) d_CM_isFar_5 co_Plane_hasPoint ok_Plane eb L_CM_160 im_Plane_hasPoint se_Plane_hasPoint (s_Plane_hasPoint eb hlc hqc hmc hpc p) rfl ⟨by decide, by decide⟩ ⟨by decide, by decide⟩ (by exact le_b rfl) ?_ _ rfl
  rintro _ u ⟨rfl, eu⟩
  subst u
  show PW _ _ _ _ _ _ (8, [(0, .ref 0), (1, .int p)], [.int (bi (inN pc p))], w)
  refine P_if_eq 30 d_CM_isFar_8 (by decide) (fun c2 => ?_) (fun c2 => ?_)
  · refine P_iconst (v := 0) d_CM_isFar_30 (by decide) ?_
    exact P_zret d_CM_isFar_31 rfl rfl (le_b rfl) (le_b rfl) ⟨⟨false, rfl⟩, hI, Fr.rf⟩
  · obtain ⟨pN, hpN, rfl⟩ := inN_of (bi_1 c2) (by omega)
    refine P_aload_n d_CM_isFar_11 rfl ?_
    refine P_getf (i := 0) d_CM_isFar_12 ok_CM (by decide) L_CM_12 e0 rfl ?_
    refine P_getfN (i := 2) d_CM_isFar_15 ok_Plane (by decide) L_CM_163 eb rfl ?_
    refine P_iload_n d_CM_isFar_18 rfl ?_
    refine P_aald (j := pN) (q := b + 19 + 1 + pN) d_CM_isFar_19 (hI.ps hb) rfl (ix_nI (by omega)) (by omega) (rows_at (by omega)) ?_
    obtain ⟨f3, f3e⟩ := hI.row (r := b + 19 + 1 + pN) (by omega) (Kc_p hb (by omega))
    refine P_callS (M := M_CM_isFar) (pc := 20) (as := [.ref (b + 19 + 1 + pN)]) d_CM_isFar_20 co_Rows_isFinite L_CM_283 sm_Rows_isFinite (s_Rows_isFinite f3e) rfl ⟨by decide, by decide⟩ ⟨by decide, by decide⟩ (by exact le_b rfl) ?_ _ rfl
    rintro _ u ⟨⟨v4, rfl⟩, eu⟩
    subst u
    show PW _ _ _ _ _ _ (23, [(0, .ref 0), (1, .int (nI pN))], [.int (bi v4)], w)
    refine P_if_ne 30 d_CM_isFar_23 (by decide) (fun c5 => ?_) (fun c5 => ?_)
    · refine P_iconst (v := 0) d_CM_isFar_30 (by decide) ?_
      exact P_zret d_CM_isFar_31 rfl rfl (le_b rfl) (le_b rfl) ⟨⟨false, rfl⟩, hI, Fr.rf⟩
    · refine P_iconst (v := 1) d_CM_isFar_26 (by decide) ?_
      refine P_goto 31 d_CM_isFar_27 (by decide) ?_
      exact P_zret d_CM_isFar_31 rfl rfl (le_b rfl) (le_b rfl) ⟨⟨true, rfl⟩, hI, Fr.rf⟩
theorem s_CM_isKept {G : pG} {w : pW} (hG : GO G) (hI : I w) {u1 : Nat} (hlu1 : u1 < 487) (hku1 : Kc u1 = (1, 9, 0)) {u2 : Nat} (hlu2 : u2 < 487) (hku2 : Kc u2 = (1, 3, 0)) (hv : u1 < 153) (hu : u2 < 153) : PM G M_CM_isKept 4 0 0 [.ref 0, .ref u1, .ref u2] w (fun r w' => (∃ v, r = some (.int (bi v))) ∧ I w' ∧ Fr SC w w') := by
  refine PM_of pn_CM_isKept (le_b rfl) ?_
  show PW _ _ _ _ _ _ (0, [(0, .ref 0), (1, .ref u1), (2, .ref u2)], [], w)
  obtain ⟨b, hb, e0⟩ := hI.cm
  obtain ⟨hb1, hb2⟩ := pl_rng hb
  obtain ⟨lc, qc, mc, pc, eb, hlc, hqc, hmc, hpc⟩ := hI.pl hb
  refine P_aload_n d_CM_isKept_0 rfl ?_
  refine P_aload_n d_CM_isKept_1 rfl ?_
  refine P_aload_n d_CM_isKept_2 rfl ?_
  refine P_getf (i := 12) d_CM_isKept_3 ok_CM (by decide) L_CM_78 e0 rfl ?_
  obtain ⟨f1, f1e⟩ := hI.row (r := u1) (by omega) hku1
  obtain ⟨f2, f2e⟩ := hI.row (r := u2) (by omega) hku2
  obtain ⟨f3, f3e⟩ := hI.row (r := 453) (by decide) kc_453
  refine P_callS (M := M_CM_isKept) (pc := 6) (as := [.ref u1, .ref u2, .ref 453]) d_CM_isKept_6 co_Maps_apply L_CM_248 sm_Maps_apply (s_Maps_apply f1e f2e f3e (by decide) (by omega) (by omega)) rfl ⟨by decide, by decide⟩ ⟨by decide, by decide⟩ (by exact le_b rfl) ?_ _ rfl
  rintro _ w4 ⟨rfl, g4, e4⟩
  have s4 := w_s e4
  have hI4 : I w4 := hI.setL e4 kc_453
  have hF4 : Fr SC w w4 := Fr.set Fr.rf e4 (SC_t (by omega))
  show PW _ _ _ _ _ _ (9, [(0, .ref 0), (1, .ref u1), (2, .ref u2)], [], w4)
  refine P_aload_n d_CM_isKept_9 rfl ?_
  refine P_getf (i := 12) d_CM_isKept_10 ok_CM (by decide) L_CM_78 ((hF4.2 _ (SC_f (by omega))).trans e0) rfl ?_
  refine P_aload_n d_CM_isKept_13 rfl ?_
  obtain ⟨f5, f5e⟩ := hI4.row (r := u2) (by omega) hku2
  refine P_callS (M := M_CM_isKept) (pc := 14) (as := [.ref 453, .ref u2]) d_CM_isKept_14 co_Rows_alike L_CM_306 sm_Rows_alike (s_Rows_alike (by decide) (by decide) s4 f5e) rfl ⟨by decide, by decide⟩ ⟨by decide, by decide⟩ (by exact le_b rfl) ?_ _ rfl
  rintro _ u ⟨⟨v6, rfl⟩, eu⟩
  subst u
  show PW _ _ _ _ _ _ (17, [(0, .ref 0), (1, .ref u1), (2, .ref u2)], [.int (bi v6)], w4)
  exact P_zret d_CM_isKept_17 rfl (nar_bi _) (le_b rfl) (le_b rfl) ⟨⟨_, rfl⟩, hI4, hF4⟩
theorem s_CM_isOfSort {G : pG} {w : pW} (hG : GO G) (hI : I w) {u1 : Nat} (hlu1 : u1 < 487) (hku1 : Kc u1 = (1, 9, 0)) {u2 : Nat} (hlu2 : u2 < 487) (hku2 : Kc u2 = (1, 3, 0)) (a : Int32) (hv : u1 < 153) (hu : u2 < 153) : PM G M_CM_isOfSort 5 0 0 [.ref 0, .ref u1, .ref u2, .int a] w (fun r w' => (∃ v, r = some (.int (bi v))) ∧ I w' ∧ Fr SC w w') := by
  refine PM_of pn_CM_isOfSort (le_b rfl) ?_
  show PW _ _ _ _ _ _ (0, [(0, .ref 0), (1, .ref u1), (2, .ref u2), (3, .int a)], [], w)
  obtain ⟨b, hb, e0⟩ := hI.cm
  obtain ⟨hb1, hb2⟩ := pl_rng hb
  obtain ⟨lc, qc, mc, pc, eb, hlc, hqc, hmc, hpc⟩ := hI.pl hb
  refine P_iload_n d_CM_isOfSort_0 rfl ?_
  refine P_if_ne 11 d_CM_isOfSort_1 (by decide) (fun c1 => ?_) (fun c1 => ?_)
  · refine P_aload_n d_CM_isOfSort_11 rfl ?_
    refine P_aload_n d_CM_isOfSort_12 rfl ?_
    obtain ⟨f2, f2e⟩ := hI.row (r := u1) (by omega) hku1
    obtain ⟨f3, f3e⟩ := hI.row (r := u2) (by omega) hku2
    refine P_callS (M := M_CM_isOfSort) (pc := 13) (as := [.ref u1, .ref u2]) d_CM_isOfSort_13 co_Maps_height L_CM_375 sm_Maps_height (s_Maps_height f2e f3e) rfl ⟨by decide, by decide⟩ ⟨by decide, by decide⟩ (by exact le_b rfl) ?_ _ rfl
    rintro _ u ⟨⟨v4, rfl⟩, eu⟩
    subst u
    show PW _ _ _ _ _ _ (16, [(0, .ref 0), (1, .ref u1), (2, .ref u2), (3, .int a)], [.long v4], w)
    refine P_lconst (v := 0) d_CM_isOfSort_16 (by decide) ?_
    refine P_lcmp d_CM_isOfSort_17 ?_
    refine P_if_eq 25 d_CM_isOfSort_18 (by decide) (fun c5 => ?_) (fun c5 => ?_)
    · refine P_iconst (v := 0) d_CM_isOfSort_25 (by decide) ?_
      refine P_istore d_CM_isOfSort_26 (by decide) rfl ?_
      refine P_iload_n d_CM_isOfSort_28 rfl ?_
      refine P_iconst (v := 1) d_CM_isOfSort_29 (by decide) ?_
      refine P_icmp_ne 46 d_CM_isOfSort_30 (by decide) (fun c6 => ?_) (fun c6 => ?_)
      · refine P_iload d_CM_isOfSort_46 rfl ?_
        refine P_if_eq 62 d_CM_isOfSort_48 (by decide) (fun _ => ?_) (fun h => absurd (by decide) h)
        refine P_iconst (v := 0) d_CM_isOfSort_62 (by decide) ?_
        exact P_zret d_CM_isOfSort_63 rfl rfl (le_b rfl) (le_b rfl) ⟨⟨false, rfl⟩, hI, Fr.rf⟩
      · refine P_iload d_CM_isOfSort_33 rfl ?_
        refine P_if_ne 42 d_CM_isOfSort_35 (by decide) (fun h => absurd (by decide) h) (fun _ => ?_)
        refine P_iconst (v := 1) d_CM_isOfSort_38 (by decide) ?_
        refine P_goto 63 d_CM_isOfSort_39 (by decide) ?_
        exact P_zret d_CM_isOfSort_63 rfl rfl (le_b rfl) (le_b rfl) ⟨⟨true, rfl⟩, hI, Fr.rf⟩
    · refine P_iconst (v := 1) d_CM_isOfSort_21 (by decide) ?_
      refine P_goto 26 d_CM_isOfSort_22 (by decide) ?_
      refine P_istore d_CM_isOfSort_26 (by decide) rfl ?_
      refine P_iload_n d_CM_isOfSort_28 rfl ?_
      refine P_iconst (v := 1) d_CM_isOfSort_29 (by decide) ?_
      refine P_icmp_ne 46 d_CM_isOfSort_30 (by decide) (fun c7 => ?_) (fun c7 => ?_)
      · refine P_iload d_CM_isOfSort_46 rfl ?_
        refine P_if_eq 62 d_CM_isOfSort_48 (by decide) (fun h => absurd h (by decide)) (fun _ => ?_)
        refine P_aload_n d_CM_isOfSort_51 rfl ?_
        refine P_callS (M := M_CM_isOfSort) (pc := 52) (as := [.ref u2]) d_CM_isOfSort_52 co_Rows_isFinite L_CM_283 sm_Rows_isFinite (s_Rows_isFinite f3e) rfl ⟨by decide, by decide⟩ ⟨by decide, by decide⟩ (by exact le_b rfl) ?_ _ rfl
        rintro _ u ⟨⟨v8, rfl⟩, eu⟩
        subst u
        show PW _ _ _ _ _ _ (55, [(0, .ref 0), (1, .ref u1), (2, .ref u2), (3, .int a), (4, .int 1)], [.int (bi v8)], w)
        refine P_if_ne 62 d_CM_isOfSort_55 (by decide) (fun c9 => ?_) (fun c9 => ?_)
        · refine P_iconst (v := 0) d_CM_isOfSort_62 (by decide) ?_
          exact P_zret d_CM_isOfSort_63 rfl rfl (le_b rfl) (le_b rfl) ⟨⟨false, rfl⟩, hI, Fr.rf⟩
        · refine P_iconst (v := 1) d_CM_isOfSort_58 (by decide) ?_
          refine P_goto 63 d_CM_isOfSort_59 (by decide) ?_
          exact P_zret d_CM_isOfSort_63 rfl rfl (le_b rfl) (le_b rfl) ⟨⟨true, rfl⟩, hI, Fr.rf⟩
      · refine P_iload d_CM_isOfSort_33 rfl ?_
        refine P_if_ne 42 d_CM_isOfSort_35 (by decide) (fun _ => ?_) (fun h => absurd h (by decide))
        refine P_iconst (v := 0) d_CM_isOfSort_42 (by decide) ?_
        refine P_goto 63 d_CM_isOfSort_43 (by decide) ?_
        exact P_zret d_CM_isOfSort_63 rfl rfl (le_b rfl) (le_b rfl) ⟨⟨false, rfl⟩, hI, Fr.rf⟩
  · refine P_aload_n d_CM_isOfSort_4 rfl ?_
    refine P_aload_n d_CM_isOfSort_5 rfl ?_
    refine P_aload_n d_CM_isOfSort_6 rfl ?_
    refine P_callV (M := M_CM_isOfSort) (pc := 7) (as := [.ref u1, .ref u2]) (b := 0) d_CM_isOfSort_7 co_CM_isKept ok_CM e0 L_CM_317 im_CM_isKept se_CM_isKept (s_CM_isKept hG hI (by omega) hku1 (by omega) hku2 (by omega) (by omega)) rfl ⟨by decide, by decide⟩ ⟨by decide, by decide⟩ (by exact le_b rfl) ?_ _ rfl
    rintro _ w10 ⟨⟨v10, rfl⟩, hI10, hG10⟩
    have hF10 : Fr SC w w10 := Fr.tr Fr.rf hG10
    show PW _ _ _ _ _ _ (10, [(0, .ref 0), (1, .ref u1), (2, .ref u2), (3, .int a)], [.int (bi v10)], w10)
    exact P_zret d_CM_isOfSort_10 rfl (nar_bi _) (le_b rfl) (le_b rfl) ⟨⟨_, rfl⟩, hI10, hF10⟩
theorem s_CM_rise {G : pG} {w : pW} (hG : GO G) (hI : I w) {u1 : Nat} (hlu1 : u1 < 487) (hku1 : Kc u1 = (1, 9, 0)) (hu : u1 < 153) : PM G M_CM_rise 4 0 0 [.ref 0, .ref u1] w (fun r w' => (∃ v, r = some (.int (bi v))) ∧ I w' ∧ Fr SC w w') := by
  refine PM_of pn_CM_rise (le_b rfl) ?_
  show PW _ _ _ _ _ _ (0, [(0, .ref 0), (1, .ref u1)], [], w)
  obtain ⟨b, hb, e0⟩ := hI.cm
  obtain ⟨hb1, hb2⟩ := pl_rng hb
  obtain ⟨lc, qc, mc, pc, eb, hlc, hqc, hmc, hpc⟩ := hI.pl hb
  refine P_aload_n d_CM_rise_0 rfl ?_
  refine P_aload_n d_CM_rise_1 rfl ?_
  refine P_getf (i := 10) d_CM_rise_2 ok_CM (by decide) L_CM_72 e0 rfl ?_
  refine P_aload_n d_CM_rise_5 rfl ?_
  refine P_getf (i := 8) d_CM_rise_6 ok_CM (by decide) L_CM_65 e0 rfl ?_
  obtain ⟨f1, f1e⟩ := hI.row (r := u1) (by omega) hku1
  obtain ⟨f2, f2e⟩ := hI.row (r := 451) (by decide) kc_451
  obtain ⟨f3, f3e⟩ := hI.row (r := 449) (by decide) kc_449
  refine P_callS (M := M_CM_rise) (pc := 9) (as := [.ref u1, .ref 451, .ref 449]) d_CM_rise_9 co_Maps_multiply L_CM_196 sm_Maps_multiply (s_Maps_multiply f1e f2e f3e (by decide) (by omega) (by decide)) rfl ⟨by decide, by decide⟩ ⟨by decide, by decide⟩ (by exact le_b rfl) ?_ _ rfl
  rintro _ w4 ⟨rfl, g4, e4⟩
  have s4 := w_s e4
  have hI4 : I w4 := hI.setL e4 kc_449
  have hF4 : Fr SC w w4 := Fr.set Fr.rf e4 (SC_t (by omega))
  show PW _ _ _ _ _ _ (12, [(0, .ref 0), (1, .ref u1)], [], w4)
  refine P_aload_n d_CM_rise_12 rfl ?_
  refine P_getf (i := 8) d_CM_rise_13 ok_CM (by decide) L_CM_65 ((hF4.2 _ (SC_f (by omega))).trans e0) rfl ?_
  refine P_aload_n d_CM_rise_16 rfl ?_
  refine P_getf (i := 10) d_CM_rise_17 ok_CM (by decide) L_CM_72 ((hF4.2 _ (SC_f (by omega))).trans e0) rfl ?_
  obtain ⟨f5, f5e⟩ := hI4.row (r := 451) (by decide) kc_451
  refine P_callS (M := M_CM_rise) (pc := 20) (as := [.ref 449, .ref 451]) d_CM_rise_20 co_Rows_copy L_CM_209 sm_Rows_copy (v_Rows_copy s4 f5e (by decide) (by decide)) rfl ⟨by decide, by decide⟩ ⟨by decide, by decide⟩ (by exact le_b rfl) ?_ _ rfl
  rintro _ w6 ⟨rfl, e6⟩
  have s6 := w_s e6
  generalize va_cpy _ _ _ _ _ = g7 at e6 s6
  have hI6 : I w6 := hI4.setL e6 kc_451
  have hF6 : Fr SC w w6 := Fr.set hF4 e6 (SC_t (by omega))
  show PW _ _ _ _ _ _ (23, [(0, .ref 0), (1, .ref u1)], [], w6)
  refine P_aload_n d_CM_rise_23 rfl ?_
  refine P_getf (i := 10) d_CM_rise_24 ok_CM (by decide) L_CM_72 ((hF6.2 _ (SC_f (by omega))).trans e0) rfl ?_
  refine P_callS (M := M_CM_rise) (pc := 27) (as := [.ref 451]) d_CM_rise_27 co_Maps_isLarge L_CM_272 sm_Maps_isLarge (s_Maps_isLarge s6) rfl ⟨by decide, by decide⟩ ⟨by decide, by decide⟩ (by exact le_b rfl) ?_ _ rfl
  rintro _ u ⟨⟨v8, rfl⟩, eu⟩
  subst u
  show PW _ _ _ _ _ _ (30, [(0, .ref 0), (1, .ref u1)], [.int (bi v8)], w6)
  refine P_if_ne 37 d_CM_rise_30 (by decide) (fun c9 => ?_) (fun c9 => ?_)
  · refine P_iconst (v := 0) d_CM_rise_37 (by decide) ?_
    exact P_zret d_CM_rise_38 rfl rfl (le_b rfl) (le_b rfl) ⟨⟨false, rfl⟩, hI6, hF6⟩
  · refine P_iconst (v := 1) d_CM_rise_33 (by decide) ?_
    refine P_goto 38 d_CM_rise_34 (by decide) ?_
    exact P_zret d_CM_rise_38 rfl rfl (le_b rfl) (le_b rfl) ⟨⟨true, rfl⟩, hI6, hF6⟩
theorem s_CM_doCommute {G : pG} {w : pW} (hG : GO G) (hI : I w) (a : Nat) (ha : a < 16) (c : Nat) (hc : c < 16) : PM G M_CM_doCommute 4 0 0 [.ref 0, .int (nI a), .int (nI c)] w (fun r w' => (∃ v, r = some (.int (bi v))) ∧ I w' ∧ Fr SC w w') := by
  refine PM_of pn_CM_doCommute (le_b rfl) ?_
  show PW _ _ _ _ _ _ (0, [(0, .ref 0), (1, .int (nI a)), (2, .int (nI c))], [], w)
  obtain ⟨b, hb, e0⟩ := hI.cm
  obtain ⟨hb1, hb2⟩ := pl_rng hb
  obtain ⟨lc, qc, mc, pc, eb, hlc, hqc, hmc, hpc⟩ := hI.pl hb
  refine P_aload_n d_CM_doCommute_0 rfl ?_
  refine P_getf (i := 0) d_CM_doCommute_1 ok_CM (by decide) L_CM_12 e0 rfl ?_
  refine P_getfN (i := 1) d_CM_doCommute_4 ok_Plane (by decide) L_CM_157 eb rfl ?_
  refine P_iload_n d_CM_doCommute_7 rfl ?_
  refine P_aald (j := a) (q := b + 2 + 1 + a) d_CM_doCommute_8 (hI.ms hb) rfl (ix_nI (by omega)) (by omega) (rows_at (by omega)) ?_
  refine P_aload_n d_CM_doCommute_9 rfl ?_
  refine P_getf (i := 0) d_CM_doCommute_10 ok_CM (by decide) L_CM_12 e0 rfl ?_
  refine P_getfN (i := 1) d_CM_doCommute_13 ok_Plane (by decide) L_CM_157 eb rfl ?_
  refine P_iload_n d_CM_doCommute_16 rfl ?_
  refine P_aald (j := c) (q := b + 2 + 1 + c) d_CM_doCommute_17 (hI.ms hb) rfl (ix_nI (by omega)) (by omega) (rows_at (by omega)) ?_
  refine P_aload_n d_CM_doCommute_18 rfl ?_
  refine P_getf (i := 8) d_CM_doCommute_19 ok_CM (by decide) L_CM_65 e0 rfl ?_
  obtain ⟨f1, f1e⟩ := hI.row (r := b + 2 + 1 + a) (by omega) (Kc_m hb (by omega))
  obtain ⟨f2, f2e⟩ := hI.row (r := b + 2 + 1 + c) (by omega) (Kc_m hb (by omega))
  obtain ⟨f3, f3e⟩ := hI.row (r := 449) (by decide) kc_449
  refine P_callS (M := M_CM_doCommute) (pc := 22) (as := [.ref (b + 2 + 1 + a), .ref (b + 2 + 1 + c), .ref 449]) d_CM_doCommute_22 co_Maps_multiply L_CM_196 sm_Maps_multiply (s_Maps_multiply f1e f2e f3e (by decide) (by omega) (by omega)) rfl ⟨by decide, by decide⟩ ⟨by decide, by decide⟩ (by exact le_b rfl) ?_ _ rfl
  rintro _ w4 ⟨rfl, g4, e4⟩
  have s4 := w_s e4
  have hI4 : I w4 := hI.setL e4 kc_449
  have hF4 : Fr SC w w4 := Fr.set Fr.rf e4 (SC_t (by omega))
  show PW _ _ _ _ _ _ (25, [(0, .ref 0), (1, .int (nI a)), (2, .int (nI c))], [], w4)
  refine P_aload_n d_CM_doCommute_25 rfl ?_
  refine P_getf (i := 0) d_CM_doCommute_26 ok_CM (by decide) L_CM_12 ((hF4.2 _ (SC_f (by omega))).trans e0) rfl ?_
  refine P_getfN (i := 1) d_CM_doCommute_29 ok_Plane (by decide) L_CM_157 ((hF4.2 _ (SC_f (by omega))).trans eb) rfl ?_
  refine P_iload_n d_CM_doCommute_32 rfl ?_
  refine P_aald (j := c) (q := b + 2 + 1 + c) d_CM_doCommute_33 (hI4.ms hb) rfl (ix_nI (by omega)) (by omega) (rows_at (by omega)) ?_
  refine P_aload_n d_CM_doCommute_34 rfl ?_
  refine P_getf (i := 0) d_CM_doCommute_35 ok_CM (by decide) L_CM_12 ((hF4.2 _ (SC_f (by omega))).trans e0) rfl ?_
  refine P_getfN (i := 1) d_CM_doCommute_38 ok_Plane (by decide) L_CM_157 ((hF4.2 _ (SC_f (by omega))).trans eb) rfl ?_
  refine P_iload_n d_CM_doCommute_41 rfl ?_
  refine P_aald (j := a) (q := b + 2 + 1 + a) d_CM_doCommute_42 (hI4.ms hb) rfl (ix_nI (by omega)) (by omega) (rows_at (by omega)) ?_
  refine P_aload_n d_CM_doCommute_43 rfl ?_
  refine P_getf (i := 9) d_CM_doCommute_44 ok_CM (by decide) L_CM_69 ((hF4.2 _ (SC_f (by omega))).trans e0) rfl ?_
  obtain ⟨f5, f5e⟩ := hI4.row (r := b + 2 + 1 + c) (by omega) (Kc_m hb (by omega))
  obtain ⟨f6, f6e⟩ := hI4.row (r := b + 2 + 1 + a) (by omega) (Kc_m hb (by omega))
  obtain ⟨f7, f7e⟩ := hI4.row (r := 450) (by decide) kc_450
  refine P_callS (M := M_CM_doCommute) (pc := 47) (as := [.ref (b + 2 + 1 + c), .ref (b + 2 + 1 + a), .ref 450]) d_CM_doCommute_47 co_Maps_multiply L_CM_196 sm_Maps_multiply (s_Maps_multiply f5e f6e f7e (by decide) (by omega) (by omega)) rfl ⟨by decide, by decide⟩ ⟨by decide, by decide⟩ (by exact le_b rfl) ?_ _ rfl
  rintro _ w8 ⟨rfl, g8, e8⟩
  have s8 := w_s e8
  have hI8 : I w8 := hI4.setL e8 kc_450
  have hF8 : Fr SC w w8 := Fr.set hF4 e8 (SC_t (by omega))
  show PW _ _ _ _ _ _ (50, [(0, .ref 0), (1, .int (nI a)), (2, .int (nI c))], [], w8)
  refine P_aload_n d_CM_doCommute_50 rfl ?_
  refine P_getf (i := 8) d_CM_doCommute_51 ok_CM (by decide) L_CM_65 ((hF8.2 _ (SC_f (by omega))).trans e0) rfl ?_
  refine P_aload_n d_CM_doCommute_54 rfl ?_
  refine P_getf (i := 9) d_CM_doCommute_55 ok_CM (by decide) L_CM_69 ((hF8.2 _ (SC_f (by omega))).trans e0) rfl ?_
  obtain ⟨f9, f9e⟩ := hI8.row (r := 449) (by decide) kc_449
  refine P_callS (M := M_CM_doCommute) (pc := 58) (as := [.ref 449, .ref 450]) d_CM_doCommute_58 co_Rows_alike L_CM_306 sm_Rows_alike (s_Rows_alike (by decide) (by decide) f9e s8) rfl ⟨by decide, by decide⟩ ⟨by decide, by decide⟩ (by exact le_b rfl) ?_ _ rfl
  rintro _ u ⟨⟨v10, rfl⟩, eu⟩
  subst u
  show PW _ _ _ _ _ _ (61, [(0, .ref 0), (1, .int (nI a)), (2, .int (nI c))], [.int (bi v10)], w8)
  exact P_zret d_CM_doCommute_61 rfl (nar_bi _) (le_b rfl) (le_b rfl) ⟨⟨_, rfl⟩, hI8, hF8⟩
theorem s_CM_areInverse {G : pG} {w : pW} (hG : GO G) (hI : I w) (a : Nat) (ha : a < 16) (c : Nat) (hc : c < 16) : PM G M_CM_areInverse 4 0 0 [.ref 0, .int (nI a), .int (nI c)] w (fun r w' => (∃ v, r = some (.int (bi v))) ∧ I w' ∧ Fr SC w w') := by
  refine PM_of pn_CM_areInverse (le_b rfl) ?_
  show PW _ _ _ _ _ _ (0, [(0, .ref 0), (1, .int (nI a)), (2, .int (nI c))], [], w)
  obtain ⟨b, hb, e0⟩ := hI.cm
  obtain ⟨hb1, hb2⟩ := pl_rng hb
  obtain ⟨lc, qc, mc, pc, eb, hlc, hqc, hmc, hpc⟩ := hI.pl hb
  refine P_aload_n d_CM_areInverse_0 rfl ?_
  refine P_getf (i := 0) d_CM_areInverse_1 ok_CM (by decide) L_CM_12 e0 rfl ?_
  refine P_getfN (i := 1) d_CM_areInverse_4 ok_Plane (by decide) L_CM_157 eb rfl ?_
  refine P_iload_n d_CM_areInverse_7 rfl ?_
  refine P_aald (j := a) (q := b + 2 + 1 + a) d_CM_areInverse_8 (hI.ms hb) rfl (ix_nI (by omega)) (by omega) (rows_at (by omega)) ?_
  refine P_aload_n d_CM_areInverse_9 rfl ?_
  refine P_getf (i := 0) d_CM_areInverse_10 ok_CM (by decide) L_CM_12 e0 rfl ?_
  refine P_getfN (i := 1) d_CM_areInverse_13 ok_Plane (by decide) L_CM_157 eb rfl ?_
  refine P_iload_n d_CM_areInverse_16 rfl ?_
  refine P_aald (j := c) (q := b + 2 + 1 + c) d_CM_areInverse_17 (hI.ms hb) rfl (ix_nI (by omega)) (by omega) (rows_at (by omega)) ?_
  refine P_aload_n d_CM_areInverse_18 rfl ?_
  refine P_getf (i := 8) d_CM_areInverse_19 ok_CM (by decide) L_CM_65 e0 rfl ?_
  obtain ⟨f1, f1e⟩ := hI.row (r := b + 2 + 1 + a) (by omega) (Kc_m hb (by omega))
  obtain ⟨f2, f2e⟩ := hI.row (r := b + 2 + 1 + c) (by omega) (Kc_m hb (by omega))
  obtain ⟨f3, f3e⟩ := hI.row (r := 449) (by decide) kc_449
  refine P_callS (M := M_CM_areInverse) (pc := 22) (as := [.ref (b + 2 + 1 + a), .ref (b + 2 + 1 + c), .ref 449]) d_CM_areInverse_22 co_Maps_multiply L_CM_196 sm_Maps_multiply (s_Maps_multiply f1e f2e f3e (by decide) (by omega) (by omega)) rfl ⟨by decide, by decide⟩ ⟨by decide, by decide⟩ (by exact le_b rfl) ?_ _ rfl
  rintro _ w4 ⟨rfl, g4, e4⟩
  have s4 := w_s e4
  have hI4 : I w4 := hI.setL e4 kc_449
  have hF4 : Fr SC w w4 := Fr.set Fr.rf e4 (SC_t (by omega))
  show PW _ _ _ _ _ _ (25, [(0, .ref 0), (1, .int (nI a)), (2, .int (nI c))], [], w4)
  refine P_aload_n d_CM_areInverse_25 rfl ?_
  refine P_getf (i := 8) d_CM_areInverse_26 ok_CM (by decide) L_CM_65 ((hF4.2 _ (SC_f (by omega))).trans e0) rfl ?_
  refine P_gets ("CornerMaps", "NOTHING", "[J", 3) (by decide) d_CM_areInverse_29 L_CM_206 ?_
  show PW _ _ _ _ _ _ (32, [(0, .ref 0), (1, .int (nI a)), (2, .int (nI c))], [.ref 1000003, .ref 449], w4)
  refine PW.ext (fun hx => ?_)
  have o5 : w4.2 1000003 = .inl (1, 9, .inr (.inl nthF)) := (hx 3).trans (GO_3 hG)
  refine P_callS (M := M_CM_areInverse) (pc := 32) (as := [.ref 449, .ref 1000003]) d_CM_areInverse_32 co_Rows_alike L_CM_306 sm_Rows_alike (s_Rows_alike (by decide) (by decide) s4 o5) rfl ⟨by decide, by decide⟩ ⟨by decide, by decide⟩ (by exact le_b rfl) ?_ _ rfl
  rintro _ u ⟨⟨v6, rfl⟩, eu⟩
  subst u
  show PW _ _ _ _ _ _ (35, [(0, .ref 0), (1, .int (nI a)), (2, .int (nI c))], [.int (bi v6)], w4)
  exact P_zret d_CM_areInverse_35 rfl (nar_bi _) (le_b rfl) (le_b rfl) ⟨⟨_, rfl⟩, hI4, hF4⟩
theorem s_CM_isPairOf {G : pG} {w : pW} (hG : GO G) (hI : I w) (a : Nat) (ha : a < 16) (c : Nat) (hc : c < 16) (x : Int32) : PM G M_CM_isPairOf 5 0 0 [.ref 0, .int (nI a), .int (nI c), .int x] w (fun r w' => (∃ v, r = some (.int (bi v))) ∧ I w' ∧ Fr SC w w') := by
  refine PM_of pn_CM_isPairOf (le_b rfl) ?_
  show PW _ _ _ _ _ _ (0, [(0, .ref 0), (1, .int (nI a)), (2, .int (nI c)), (3, .int x)], [], w)
  obtain ⟨b, hb, e0⟩ := hI.cm
  obtain ⟨hb1, hb2⟩ := pl_rng hb
  obtain ⟨lc, qc, mc, pc, eb, hlc, hqc, hmc, hpc⟩ := hI.pl hb
  refine P_iload_n d_CM_isPairOf_0 rfl ?_
  refine P_if_ne 11 d_CM_isPairOf_1 (by decide) (fun c1 => ?_) (fun c1 => ?_)
  · refine P_iload_n d_CM_isPairOf_11 rfl ?_
    refine P_iconst (v := 1) d_CM_isPairOf_12 (by decide) ?_
    refine P_icmp_ne 25 d_CM_isPairOf_13 (by decide) (fun c2 => ?_) (fun c2 => ?_)
    · refine P_aload_n d_CM_isPairOf_25 rfl ?_
      refine P_getf (i := 0) d_CM_isPairOf_26 ok_CM (by decide) L_CM_12 e0 rfl ?_
      refine P_getfN (i := 1) d_CM_isPairOf_29 ok_Plane (by decide) L_CM_157 eb rfl ?_
      refine P_iload_n d_CM_isPairOf_32 rfl ?_
      refine P_aald (j := a) (q := b + 2 + 1 + a) d_CM_isPairOf_33 (hI.ms hb) rfl (ix_nI (by omega)) (by omega) (rows_at (by omega)) ?_
      refine P_aload_n d_CM_isPairOf_34 rfl ?_
      refine P_getf (i := 0) d_CM_isPairOf_35 ok_CM (by decide) L_CM_12 e0 rfl ?_
      refine P_getfN (i := 1) d_CM_isPairOf_38 ok_Plane (by decide) L_CM_157 eb rfl ?_
      refine P_iload_n d_CM_isPairOf_41 rfl ?_
      refine P_aald (j := c) (q := b + 2 + 1 + c) d_CM_isPairOf_42 (hI.ms hb) rfl (ix_nI (by omega)) (by omega) (rows_at (by omega)) ?_
      obtain ⟨f3, f3e⟩ := hI.row (r := b + 2 + 1 + a) (by omega) (Kc_m hb (by omega))
      obtain ⟨f4, f4e⟩ := hI.row (r := b + 2 + 1 + c) (by omega) (Kc_m hb (by omega))
      refine P_callS (M := M_CM_isPairOf) (pc := 43) (as := [.ref (b + 2 + 1 + a), .ref (b + 2 + 1 + c)]) d_CM_isPairOf_43 co_Rows_alike L_CM_306 sm_Rows_alike (s_Rows_alike (by decide) (by decide) f3e f4e) rfl ⟨by decide, by decide⟩ ⟨by decide, by decide⟩ (by exact le_b rfl) ?_ _ rfl
      rintro _ u ⟨⟨v5, rfl⟩, eu⟩
      subst u
      show PW _ _ _ _ _ _ (46, [(0, .ref 0), (1, .int (nI a)), (2, .int (nI c)), (3, .int x)], [.int (bi v5)], w)
      exact P_zret d_CM_isPairOf_46 rfl (nar_bi _) (le_b rfl) (le_b rfl) ⟨⟨_, rfl⟩, hI, Fr.rf⟩
    · refine P_aload_n d_CM_isPairOf_16 rfl ?_
      refine P_iload_n d_CM_isPairOf_17 rfl ?_
      refine P_iload_n d_CM_isPairOf_18 rfl ?_
      refine P_callV (M := M_CM_isPairOf) (pc := 19) (as := [.int (nI a), .int (nI c)]) (b := 0) d_CM_isPairOf_19 co_CM_areInverse ok_CM e0 L_CM_314 im_CM_areInverse se_CM_areInverse (s_CM_areInverse hG hI a (by omega) c (by omega)) rfl ⟨by decide, by decide⟩ ⟨by decide, by decide⟩ (by exact le_b rfl) ?_ _ rfl
      rintro _ w6 ⟨⟨v6, rfl⟩, hI6, hG6⟩
      have hF6 : Fr SC w w6 := Fr.tr Fr.rf hG6
      show PW _ _ _ _ _ _ (22, [(0, .ref 0), (1, .int (nI a)), (2, .int (nI c)), (3, .int x)], [.int (bi v6)], w6)
      refine P_goto 46 d_CM_isPairOf_22 (by decide) ?_
      exact P_zret d_CM_isPairOf_46 rfl (nar_bi _) (le_b rfl) (le_b rfl) ⟨⟨_, rfl⟩, hI6, hF6⟩
  · refine P_aload_n d_CM_isPairOf_4 rfl ?_
    refine P_iload_n d_CM_isPairOf_5 rfl ?_
    refine P_iload_n d_CM_isPairOf_6 rfl ?_
    refine P_callV (M := M_CM_isPairOf) (pc := 7) (as := [.int (nI a), .int (nI c)]) (b := 0) d_CM_isPairOf_7 co_CM_doCommute ok_CM e0 L_CM_310 im_CM_doCommute se_CM_doCommute (s_CM_doCommute hG hI a (by omega) c (by omega)) rfl ⟨by decide, by decide⟩ ⟨by decide, by decide⟩ (by exact le_b rfl) ?_ _ rfl
    rintro _ w7 ⟨⟨v7, rfl⟩, hI7, hG7⟩
    have hF7 : Fr SC w w7 := Fr.tr Fr.rf hG7
    show PW _ _ _ _ _ _ (10, [(0, .ref 0), (1, .int (nI a)), (2, .int (nI c)), (3, .int x)], [.int (bi v7)], w7)
    exact P_zret d_CM_isPairOf_10 rfl (nar_bi _) (le_b rfl) (le_b rfl) ⟨⟨_, rfl⟩, hI7, hF7⟩
theorem s_CM_stepOn {G : pG} {w : pW} (hG : GO G) (hI : I w) (m : Nat) (hm : m < 16) : PM G M_CM_stepOn 4 0 0 [.ref 0, .int (nI m)] w (fun r w' => (∃ v, r = some (.int (bi v))) ∧ I w' ∧ Fr SC w w') := by
  refine PM_of pn_CM_stepOn (le_b rfl) ?_
  show PW _ _ _ _ _ _ (0, [(0, .ref 0), (1, .int (nI m))], [], w)
  obtain ⟨b, hb, e0⟩ := hI.cm
  obtain ⟨hb1, hb2⟩ := pl_rng hb
  obtain ⟨lc, qc, mc, pc, eb, hlc, hqc, hmc, hpc⟩ := hI.pl hb
  refine P_aload_n d_CM_stepOn_0 rfl ?_
  refine P_getf (i := 0) d_CM_stepOn_1 ok_CM (by decide) L_CM_12 e0 rfl ?_
  refine P_getfN (i := 1) d_CM_stepOn_4 ok_Plane (by decide) L_CM_157 eb rfl ?_
  refine P_iload_n d_CM_stepOn_7 rfl ?_
  refine P_aald (j := m) (q := b + 2 + 1 + m) d_CM_stepOn_8 (hI.ms hb) rfl (ix_nI (by omega)) (by omega) (rows_at (by omega)) ?_
  refine P_aload_n d_CM_stepOn_9 rfl ?_
  refine P_getf (i := 13) d_CM_stepOn_10 ok_CM (by decide) L_CM_81 e0 rfl ?_
  refine P_aload_n d_CM_stepOn_13 rfl ?_
  refine P_getf (i := 12) d_CM_stepOn_14 ok_CM (by decide) L_CM_78 e0 rfl ?_
  obtain ⟨f1, f1e⟩ := hI.row (r := b + 2 + 1 + m) (by omega) (Kc_m hb (by omega))
  obtain ⟨f2, f2e⟩ := hI.row (r := 454) (by decide) kc_454
  obtain ⟨f3, f3e⟩ := hI.row (r := 453) (by decide) kc_453
  refine P_callS (M := M_CM_stepOn) (pc := 17) (as := [.ref (b + 2 + 1 + m), .ref 454, .ref 453]) d_CM_stepOn_17 co_Maps_apply L_CM_248 sm_Maps_apply (s_Maps_apply f1e f2e f3e (by decide) (by omega) (by decide)) rfl ⟨by decide, by decide⟩ ⟨by decide, by decide⟩ (by exact le_b rfl) ?_ _ rfl
  rintro _ w4 ⟨rfl, g4, e4⟩
  have s4 := w_s e4
  have hI4 : I w4 := hI.setL e4 kc_453
  have hF4 : Fr SC w w4 := Fr.set Fr.rf e4 (SC_t (by omega))
  show PW _ _ _ _ _ _ (20, [(0, .ref 0), (1, .int (nI m))], [], w4)
  refine P_aload_n d_CM_stepOn_20 rfl ?_
  refine P_getf (i := 12) d_CM_stepOn_21 ok_CM (by decide) L_CM_78 ((hF4.2 _ (SC_f (by omega))).trans e0) rfl ?_
  refine P_aload_n d_CM_stepOn_24 rfl ?_
  refine P_getf (i := 13) d_CM_stepOn_25 ok_CM (by decide) L_CM_81 ((hF4.2 _ (SC_f (by omega))).trans e0) rfl ?_
  obtain ⟨f5, f5e⟩ := hI4.row (r := 454) (by decide) kc_454
  refine P_callS (M := M_CM_stepOn) (pc := 28) (as := [.ref 453, .ref 454]) d_CM_stepOn_28 co_Rows_copy L_CM_209 sm_Rows_copy (v_Rows_copy s4 f5e (by decide) (by decide)) rfl ⟨by decide, by decide⟩ ⟨by decide, by decide⟩ (by exact le_b rfl) ?_ _ rfl
  rintro _ w6 ⟨rfl, e6⟩
  have s6 := w_s e6
  generalize va_cpy _ _ _ _ _ = g7 at e6 s6
  have hI6 : I w6 := hI4.setL e6 kc_454
  have hF6 : Fr SC w w6 := Fr.set hF4 e6 (SC_t (by omega))
  show PW _ _ _ _ _ _ (31, [(0, .ref 0), (1, .int (nI m))], [], w6)
  refine P_aload_n d_CM_stepOn_31 rfl ?_
  refine P_getf (i := 13) d_CM_stepOn_32 ok_CM (by decide) L_CM_81 ((hF6.2 _ (SC_f (by omega))).trans e0) rfl ?_
  refine P_callS (M := M_CM_stepOn) (pc := 35) (as := [.ref 454]) d_CM_stepOn_35 co_Rows_isNear L_CM_251 sm_Rows_isNear (s_Rows_isNear s6) rfl ⟨by decide, by decide⟩ ⟨by decide, by decide⟩ (by exact le_b rfl) ?_ _ rfl
  rintro _ u ⟨⟨v8, rfl⟩, eu⟩
  subst u
  show PW _ _ _ _ _ _ (38, [(0, .ref 0), (1, .int (nI m))], [.int (bi v8)], w6)
  exact P_zret d_CM_stepOn_38 rfl (nar_bi _) (le_b rfl) (le_b rfl) ⟨⟨_, rfl⟩, hI6, hF6⟩
theorem s_CM_follow {G : pG} {w : pW} (hG : GO G) (hI : I w) (m : Nat) (hm : m < 16) (p : Nat) (hp : p < 8) (n : Nat) (hn : n < 21) : PM G M_CM_follow 5 0 0 [.ref 0, .int (nI m), .int (nI p), .int (nI n)] w (fun r w' => (∃ v, r = some (.int (bi v))) ∧ I w' ∧ Fr SC w w') := by
  refine PM_of pn_CM_follow (le_b rfl) ?_
  show PW _ _ _ _ _ _ (0, [(0, .ref 0), (1, .int (nI m)), (2, .int (nI p)), (3, .int (nI n))], [], w)
  obtain ⟨b, hb, e0⟩ := hI.cm
  obtain ⟨hb1, hb2⟩ := pl_rng hb
  obtain ⟨lc, qc, mc, pc, eb, hlc, hqc, hmc, hpc⟩ := hI.pl hb
  refine P_aload_n d_CM_follow_0 rfl ?_
  refine P_getf (i := 0) d_CM_follow_1 ok_CM (by decide) L_CM_12 e0 rfl ?_
  refine P_getfN (i := 2) d_CM_follow_4 ok_Plane (by decide) L_CM_163 eb rfl ?_
  refine P_iload_n d_CM_follow_7 rfl ?_
  refine P_aald (j := p) (q := b + 19 + 1 + p) d_CM_follow_8 (hI.ps hb) rfl (ix_nI (by omega)) (by omega) (rows_at (by omega)) ?_
  refine P_aload_n d_CM_follow_9 rfl ?_
  refine P_getf (i := 13) d_CM_follow_10 ok_CM (by decide) L_CM_81 e0 rfl ?_
  obtain ⟨f1, f1e⟩ := hI.row (r := b + 19 + 1 + p) (by omega) (Kc_p hb (by omega))
  obtain ⟨f2, f2e⟩ := hI.row (r := 454) (by decide) kc_454
  refine P_callS (M := M_CM_follow) (pc := 13) (as := [.ref (b + 19 + 1 + p), .ref 454]) d_CM_follow_13 co_Rows_copy L_CM_209 sm_Rows_copy (v_Rows_copy f1e f2e (by decide) (by decide)) rfl ⟨by decide, by decide⟩ ⟨by decide, by decide⟩ (by exact le_b rfl) ?_ _ rfl
  rintro _ w3 ⟨rfl, e3⟩
  have s3 := w_s e3
  generalize va_cpy _ _ _ _ _ = g4 at e3 s3
  have hI3 : I w3 := hI.setL e3 kc_454
  have hF3 : Fr SC w w3 := Fr.set Fr.rf e3 (SC_t (by omega))
  show PW _ _ _ _ _ _ (16, [(0, .ref 0), (1, .int (nI m)), (2, .int (nI p)), (3, .int (nI n))], [], w3)
  refine P_iconst (v := 0) d_CM_follow_16 (by decide) ?_
  refine P_istore d_CM_follow_17 (by decide) rfl ?_
  refine PW_ind (σ := pW) (n) (fun jj ss => I (ss) ∧ Fr SC w (ss)) (fun jj ss => (19, [(0, .ref 0), (1, .int (nI m)), (2, .int (nI p)), (3, .int (nI n)), (4, .int (nI jj))], [], ss)) ?_ ?_ 0 (w3) (by omega) ⟨hI3, hF3⟩
  · rintro uj5 ⟨hIj5, hFj5⟩
    show PW _ _ _ _ _ _ (19, [(0, .ref 0), (1, .int (nI m)), (2, .int (nI p)), (3, .int (nI n)), (4, .int (nI n))], [], uj5)
    refine P_iload d_CM_follow_19 rfl ?_
    refine P_iload_n d_CM_follow_21 rfl ?_
    refine P_icmp_ge 41 d_CM_follow_22 (by decide) (fun _ => ?_) (fun h => absurd (Int32.le_refl _) h)
    refine P_iconst (v := 1) d_CM_follow_41 (by decide) ?_
    exact P_zret d_CM_follow_42 rfl rfl (le_b rfl) (le_b rfl) ⟨⟨true, rfl⟩, hIj5, hFj5⟩
  · rintro j5 uj5 hj5 ⟨hIj5, hFj5⟩ kkj5
    show PW _ _ _ _ _ _ (19, [(0, .ref 0), (1, .int (nI m)), (2, .int (nI p)), (3, .int (nI n)), (4, .int (nI j5))], [], uj5)
    refine P_iload d_CM_follow_19 rfl ?_
    refine P_iload_n d_CM_follow_21 rfl ?_
    refine P_icmp_ge 41 d_CM_follow_22 (by decide) (fun h => absurd h (nI_geF (a := j5) (b := n) (by omega) (by omega))) (fun _ => ?_)
    refine P_aload_n d_CM_follow_25 rfl ?_
    refine P_iload_n d_CM_follow_26 rfl ?_
    refine P_callV (M := M_CM_follow) (pc := 27) (as := [.int (nI m)]) (b := 0) d_CM_follow_27 co_CM_stepOn ok_CM ((hFj5.2 _ (SC_f (by omega))).trans e0) L_CM_358 im_CM_stepOn se_CM_stepOn (s_CM_stepOn hG hIj5 m (by omega)) rfl ⟨by decide, by decide⟩ ⟨by decide, by decide⟩ (by exact le_b rfl) ?_ _ rfl
    rintro _ w6 ⟨⟨v6, rfl⟩, hI6, hG6⟩
    have hF6 : Fr SC w w6 := Fr.tr hFj5 hG6
    show PW _ _ _ _ _ _ (30, [(0, .ref 0), (1, .int (nI m)), (2, .int (nI p)), (3, .int (nI n)), (4, .int (nI j5))], [.int (bi v6)], w6)
    refine P_if_ne 35 d_CM_follow_30 (by decide) (fun c7 => ?_) (fun c7 => ?_)
    · refine P_iinc (v := nI (j5 + 1)) d_CM_follow_35 (by decide) rfl (nI_add j5 1) rfl ?_
      refine P_goto 19 d_CM_follow_38 (by decide) ?_
      exact kkj5 (w6) ⟨hI6, hF6⟩
    · refine P_iconst (v := 0) d_CM_follow_33 (by decide) ?_
      exact P_zret d_CM_follow_34 rfl rfl (le_b rfl) (le_b rfl) ⟨⟨false, rfl⟩, hI6, hF6⟩
theorem s_CM_meetSides {G : pG} {w : pW} (hG : GO G) (hI : I w) (q : Nat) (hq : q < 8) (k : Nat) (hk : k < 3) : PM G M_CM_meetSides 4 0 0 [.ref 0, .int (nI q), .int (nI k)] w (fun r w' => r = none ∧ I w' ∧ Fr SC w w') := by
  refine PM_of pn_CM_meetSides (le_b rfl) ?_
  show PW _ _ _ _ _ _ (0, [(0, .ref 0), (1, .int (nI q)), (2, .int (nI k))], [], w)
  obtain ⟨b, hb, e0⟩ := hI.cm
  obtain ⟨hb1, hb2⟩ := pl_rng hb
  obtain ⟨lc, qc, mc, pc, eb, hlc, hqc, hmc, hpc⟩ := hI.pl hb
  refine P_aload_n d_CM_meetSides_0 rfl ?_
  refine P_getf (i := 0) d_CM_meetSides_1 ok_CM (by decide) L_CM_12 e0 rfl ?_
  refine P_getfN (i := 0) d_CM_meetSides_4 ok_Plane (by decide) L_CM_142 eb rfl ?_
  refine P_iload_n d_CM_meetSides_7 rfl ?_
  refine P_aald (j := q) (q := b + 1 + 27 + 6 * q) d_CM_meetSides_8 (hI.qs hb) rfl (ix_nI (by omega)) (by omega) (pq_at (by omega)) ?_
  refine P_getfN (i := 0) d_CM_meetSides_9 ok_Quad (by decide) L_CM_146 (hI.quad hb (by omega)) rfl ?_
  refine P_astore_n d_CM_meetSides_12 (by decide) rfl ?_
  refine P_aload_n d_CM_meetSides_13 rfl ?_
  refine P_gets ("CornerMaps", "DIAGONALS", "[I", 2) (by decide) d_CM_meetSides_14 L_CM_452 ?_
  show PW _ _ _ _ _ _ (17, [(0, .ref 0), (1, .int (nI q)), (2, .int (nI k)), (3, .ref (b + 1 + 27 + 6 * q + 1))], [.ref 1000002, .ref (b + 1 + 27 + 6 * q + 1)], w)
  refine PW.ext (fun hx => ?_)
  have o1 : w.2 1000002 = .inl (0, 12, .inl diaF) := (hx 2).trans (GO_2 hG)
  refine P_iconst (v := 4) d_CM_meetSides_17 (by decide) ?_
  refine P_iload_n d_CM_meetSides_18 rfl ?_
  refine P_imulN (a := 4) (b := k) d_CM_meetSides_19 ?_
  show PW _ _ _ _ _ _ (20, [(0, .ref 0), (1, .int (nI q)), (2, .int (nI k)), (3, .ref (b + 1 + 27 + 6 * q + 1))], [.int (nI (4 * k)), .ref 1000002, .ref (b + 1 + 27 + 6 * q + 1)], w)
  refine P_iald (j := 4 * k) d_CM_meetSides_20 o1 (ix_nI (by omega)) (by omega) ?_
  obtain ⟨k2, k2l, k2e⟩ := dia_lt (j := 4 * k) (by omega)
  rw [k2e]
  refine P_aald (j := k2) (q := b + 1 + 27 + 6 * q + 1 + 1 + k2) d_CM_meetSides_21 (hI.rows (by omega) (Kc_q hb (by omega)).2.1) rfl (ix_nI (by omega)) (by omega) (rows_at (by omega)) ?_
  refine P_aload_n d_CM_meetSides_22 rfl ?_
  refine P_gets ("CornerMaps", "DIAGONALS", "[I", 2) (by decide) d_CM_meetSides_23 L_CM_452 ?_
  show PW _ _ _ _ _ _ (26, [(0, .ref 0), (1, .int (nI q)), (2, .int (nI k)), (3, .ref (b + 1 + 27 + 6 * q + 1))], [.ref 1000002, .ref (b + 1 + 27 + 6 * q + 1), .ref (b + 1 + 27 + 6 * q + 1 + 1 + k2)], w)
  refine PW.ext (fun hx => ?_)
  have o3 : w.2 1000002 = .inl (0, 12, .inl diaF) := (hx 2).trans (GO_2 hG)
  refine P_iconst (v := 4) d_CM_meetSides_26 (by decide) ?_
  refine P_iload_n d_CM_meetSides_27 rfl ?_
  refine P_imulN (a := 4) (b := k) d_CM_meetSides_28 ?_
  show PW _ _ _ _ _ _ (29, [(0, .ref 0), (1, .int (nI q)), (2, .int (nI k)), (3, .ref (b + 1 + 27 + 6 * q + 1))], [.int (nI (4 * k)), .ref 1000002, .ref (b + 1 + 27 + 6 * q + 1), .ref (b + 1 + 27 + 6 * q + 1 + 1 + k2)], w)
  refine P_iconst (v := 1) d_CM_meetSides_29 (by decide) ?_
  refine P_iaddN (a := (4 * k)) (b := 1) d_CM_meetSides_30 ?_
  show PW _ _ _ _ _ _ (31, [(0, .ref 0), (1, .int (nI q)), (2, .int (nI k)), (3, .ref (b + 1 + 27 + 6 * q + 1))], [.int (nI ((4 * k) + 1)), .ref 1000002, .ref (b + 1 + 27 + 6 * q + 1), .ref (b + 1 + 27 + 6 * q + 1 + 1 + k2)], w)
  refine P_iald (j := (4 * k) + 1) d_CM_meetSides_31 o3 (ix_nI (by omega)) (by omega) ?_
  obtain ⟨k4, k4l, k4e⟩ := dia_lt (j := (4 * k) + 1) (by omega)
  rw [k4e]
  refine P_aald (j := k4) (q := b + 1 + 27 + 6 * q + 1 + 1 + k4) d_CM_meetSides_32 (hI.rows (by omega) (Kc_q hb (by omega)).2.1) rfl (ix_nI (by omega)) (by omega) (rows_at (by omega)) ?_
  refine P_aload_n d_CM_meetSides_33 rfl ?_
  refine P_getf (i := 14) d_CM_meetSides_34 ok_CM (by decide) L_CM_84 e0 rfl ?_
  obtain ⟨f5, f5e⟩ := hI.row (r := b + 1 + 27 + 6 * q + 1 + 1 + k2) (by omega) ((Kc_q hb (by omega)).2.2 _ (by omega))
  obtain ⟨f6, f6e⟩ := hI.row (r := b + 1 + 27 + 6 * q + 1 + 1 + k4) (by omega) ((Kc_q hb (by omega)).2.2 _ (by omega))
  obtain ⟨f7, f7e⟩ := hI.row (r := 455) (by decide) kc_455
  refine P_callS (M := M_CM_meetSides) (pc := 37) (as := [.ref (b + 1 + 27 + 6 * q + 1 + 1 + k2), .ref (b + 1 + 27 + 6 * q + 1 + 1 + k4), .ref 455]) d_CM_meetSides_37 co_Rows_through L_CM_324 sm_Rows_through (s_Rows_through f5e f6e f7e (by decide) (by omega) (by omega)) rfl ⟨by decide, by decide⟩ ⟨by decide, by decide⟩ (by exact le_b rfl) ?_ _ rfl
  rintro _ w8 ⟨⟨v8, rfl⟩, g8, e8⟩
  have s8 := w_s e8
  have hI8 : I w8 := hI.setL e8 kc_455
  have hF8 : Fr SC w w8 := Fr.set Fr.rf e8 (SC_t (by omega))
  show PW _ _ _ _ _ _ (40, [(0, .ref 0), (1, .int (nI q)), (2, .int (nI k)), (3, .ref (b + 1 + 27 + 6 * q + 1))], [.int (bi v8)], w8)
  refine P_pop d_CM_meetSides_40 rfl ?_
  refine P_aload_n d_CM_meetSides_41 rfl ?_
  refine P_gets ("CornerMaps", "DIAGONALS", "[I", 2) (by decide) d_CM_meetSides_42 L_CM_452 ?_
  show PW _ _ _ _ _ _ (45, [(0, .ref 0), (1, .int (nI q)), (2, .int (nI k)), (3, .ref (b + 1 + 27 + 6 * q + 1))], [.ref 1000002, .ref (b + 1 + 27 + 6 * q + 1)], w8)
  refine PW.ext (fun hx => ?_)
  have o9 : w8.2 1000002 = .inl (0, 12, .inl diaF) := (hx 2).trans (GO_2 hG)
  refine P_iconst (v := 4) d_CM_meetSides_45 (by decide) ?_
  refine P_iload_n d_CM_meetSides_46 rfl ?_
  refine P_imulN (a := 4) (b := k) d_CM_meetSides_47 ?_
  show PW _ _ _ _ _ _ (48, [(0, .ref 0), (1, .int (nI q)), (2, .int (nI k)), (3, .ref (b + 1 + 27 + 6 * q + 1))], [.int (nI (4 * k)), .ref 1000002, .ref (b + 1 + 27 + 6 * q + 1)], w8)
  refine P_iconst (v := 2) d_CM_meetSides_48 (by decide) ?_
  refine P_iaddN (a := (4 * k)) (b := 2) d_CM_meetSides_49 ?_
  show PW _ _ _ _ _ _ (50, [(0, .ref 0), (1, .int (nI q)), (2, .int (nI k)), (3, .ref (b + 1 + 27 + 6 * q + 1))], [.int (nI ((4 * k) + 2)), .ref 1000002, .ref (b + 1 + 27 + 6 * q + 1)], w8)
  refine P_iald (j := (4 * k) + 2) d_CM_meetSides_50 o9 (ix_nI (by omega)) (by omega) ?_
  obtain ⟨k10, k10l, k10e⟩ := dia_lt (j := (4 * k) + 2) (by omega)
  rw [k10e]
  refine P_aald (j := k10) (q := b + 1 + 27 + 6 * q + 1 + 1 + k10) d_CM_meetSides_51 (hI8.rows (by omega) (Kc_q hb (by omega)).2.1) rfl (ix_nI (by omega)) (by omega) (rows_at (by omega)) ?_
  refine P_aload_n d_CM_meetSides_52 rfl ?_
  refine P_gets ("CornerMaps", "DIAGONALS", "[I", 2) (by decide) d_CM_meetSides_53 L_CM_452 ?_
  show PW _ _ _ _ _ _ (56, [(0, .ref 0), (1, .int (nI q)), (2, .int (nI k)), (3, .ref (b + 1 + 27 + 6 * q + 1))], [.ref 1000002, .ref (b + 1 + 27 + 6 * q + 1), .ref (b + 1 + 27 + 6 * q + 1 + 1 + k10)], w8)
  refine PW.ext (fun hx => ?_)
  have o11 : w8.2 1000002 = .inl (0, 12, .inl diaF) := (hx 2).trans (GO_2 hG)
  refine P_iconst (v := 4) d_CM_meetSides_56 (by decide) ?_
  refine P_iload_n d_CM_meetSides_57 rfl ?_
  refine P_imulN (a := 4) (b := k) d_CM_meetSides_58 ?_
  show PW _ _ _ _ _ _ (59, [(0, .ref 0), (1, .int (nI q)), (2, .int (nI k)), (3, .ref (b + 1 + 27 + 6 * q + 1))], [.int (nI (4 * k)), .ref 1000002, .ref (b + 1 + 27 + 6 * q + 1), .ref (b + 1 + 27 + 6 * q + 1 + 1 + k10)], w8)
  refine P_iconst (v := 3) d_CM_meetSides_59 (by decide) ?_
  refine P_iaddN (a := (4 * k)) (b := 3) d_CM_meetSides_60 ?_
  show PW _ _ _ _ _ _ (61, [(0, .ref 0), (1, .int (nI q)), (2, .int (nI k)), (3, .ref (b + 1 + 27 + 6 * q + 1))], [.int (nI ((4 * k) + 3)), .ref 1000002, .ref (b + 1 + 27 + 6 * q + 1), .ref (b + 1 + 27 + 6 * q + 1 + 1 + k10)], w8)
  refine P_iald (j := (4 * k) + 3) d_CM_meetSides_61 o11 (ix_nI (by omega)) (by omega) ?_
  obtain ⟨k12, k12l, k12e⟩ := dia_lt (j := (4 * k) + 3) (by omega)
  rw [k12e]
  refine P_aald (j := k12) (q := b + 1 + 27 + 6 * q + 1 + 1 + k12) d_CM_meetSides_62 (hI8.rows (by omega) (Kc_q hb (by omega)).2.1) rfl (ix_nI (by omega)) (by omega) (rows_at (by omega)) ?_
  refine P_aload_n d_CM_meetSides_63 rfl ?_
  refine P_getf (i := 15) d_CM_meetSides_64 ok_CM (by decide) L_CM_87 ((hF8.2 _ (SC_f (by omega))).trans e0) rfl ?_
  obtain ⟨f13, f13e⟩ := hI8.row (r := b + 1 + 27 + 6 * q + 1 + 1 + k10) (by omega) ((Kc_q hb (by omega)).2.2 _ (by omega))
  obtain ⟨f14, f14e⟩ := hI8.row (r := b + 1 + 27 + 6 * q + 1 + 1 + k12) (by omega) ((Kc_q hb (by omega)).2.2 _ (by omega))
  obtain ⟨f15, f15e⟩ := hI8.row (r := 456) (by decide) kc_456
  refine P_callS (M := M_CM_meetSides) (pc := 67) (as := [.ref (b + 1 + 27 + 6 * q + 1 + 1 + k10), .ref (b + 1 + 27 + 6 * q + 1 + 1 + k12), .ref 456]) d_CM_meetSides_67 co_Rows_through L_CM_324 sm_Rows_through (s_Rows_through f13e f14e f15e (by decide) (by omega) (by omega)) rfl ⟨by decide, by decide⟩ ⟨by decide, by decide⟩ (by exact le_b rfl) ?_ _ rfl
  rintro _ w16 ⟨⟨v16, rfl⟩, g16, e16⟩
  have s16 := w_s e16
  have hI16 : I w16 := hI8.setL e16 kc_456
  have hF16 : Fr SC w w16 := Fr.set hF8 e16 (SC_t (by omega))
  show PW _ _ _ _ _ _ (70, [(0, .ref 0), (1, .int (nI q)), (2, .int (nI k)), (3, .ref (b + 1 + 27 + 6 * q + 1))], [.int (bi v16)], w16)
  refine P_pop d_CM_meetSides_70 rfl ?_
  refine P_aload_n d_CM_meetSides_71 rfl ?_
  refine P_getf (i := 14) d_CM_meetSides_72 ok_CM (by decide) L_CM_84 ((hF16.2 _ (SC_f (by omega))).trans e0) rfl ?_
  refine P_aload_n d_CM_meetSides_75 rfl ?_
  refine P_getf (i := 15) d_CM_meetSides_76 ok_CM (by decide) L_CM_87 ((hF16.2 _ (SC_f (by omega))).trans e0) rfl ?_
  refine P_aload_n d_CM_meetSides_79 rfl ?_
  refine P_getf (i := 12) d_CM_meetSides_80 ok_CM (by decide) L_CM_78 ((hF16.2 _ (SC_f (by omega))).trans e0) rfl ?_
  obtain ⟨f17, f17e⟩ := hI16.row (r := 455) (by decide) kc_455
  obtain ⟨f18, f18e⟩ := hI16.row (r := 453) (by decide) kc_453
  refine P_callS (M := M_CM_meetSides) (pc := 83) (as := [.ref 455, .ref 456, .ref 453]) d_CM_meetSides_83 co_Rows_through L_CM_324 sm_Rows_through (s_Rows_through f17e s16 f18e (by decide) (by decide) (by decide)) rfl ⟨by decide, by decide⟩ ⟨by decide, by decide⟩ (by exact le_b rfl) ?_ _ rfl
  rintro _ w19 ⟨⟨v19, rfl⟩, g19, e19⟩
  have s19 := w_s e19
  have hI19 : I w19 := hI16.setL e19 kc_453
  have hF19 : Fr SC w w19 := Fr.set hF16 e19 (SC_t (by omega))
  show PW _ _ _ _ _ _ (86, [(0, .ref 0), (1, .int (nI q)), (2, .int (nI k)), (3, .ref (b + 1 + 27 + 6 * q + 1))], [.int (bi v19)], w19)
  refine P_pop d_CM_meetSides_86 rfl ?_
  exact P_vret d_CM_meetSides_87 rfl (le_b rfl) (le_b rfl) ⟨rfl, hI19, hF19⟩
theorem s_CM_keepsCorners {G : pG} {w : pW} (hG : GO G) (hI : I w) (m : Nat) (hm : m < 16) (q : Nat) (hq : q < 8) : PM G M_CM_keepsCorners 1 0 0 [.ref 0, .int (nI m), .int (nI q)] w (fun r w' => (∃ v, r = some (.int (bi v))) ∧ I w' ∧ Fr SC w w') := by
  refine PM_of pn_CM_keepsCorners (le_b rfl) ?_
  show PW _ _ _ _ _ _ (0, [(0, .ref 0), (1, .int (nI m)), (2, .int (nI q))], [], w)
  obtain ⟨b, hb, e0⟩ := hI.cm
  obtain ⟨hb1, hb2⟩ := pl_rng hb
  obtain ⟨lc, qc, mc, pc, eb, hlc, hqc, hmc, hpc⟩ := hI.pl hb
  refine P_iconst (v := 0) d_CM_keepsCorners_0 (by decide) ?_
  refine P_istore_n d_CM_keepsCorners_1 (by decide) rfl ?_
  refine PW_ind (σ := pW) (4) (fun jj ss => I (ss) ∧ Fr SC w (ss)) (fun jj ss => (2, [(0, .ref 0), (1, .int (nI m)), (2, .int (nI q)), (3, .int (nI jj))], [], ss)) ?_ ?_ 0 (w) (by omega) ⟨hI, Fr.rf⟩
  · rintro uj1 ⟨hIj1, hFj1⟩
    show PW _ _ _ _ _ _ (2, [(0, .ref 0), (1, .int (nI m)), (2, .int (nI q)), (3, .int 4)], [], uj1)
    refine P_iload_n d_CM_keepsCorners_2 rfl ?_
    refine P_iconst (v := 4) d_CM_keepsCorners_3 (by decide) ?_
    refine P_icmp_ge 46 d_CM_keepsCorners_4 (by decide) (fun _ => ?_) (fun h => absurd (by decide) h)
    refine P_iconst (v := 1) d_CM_keepsCorners_46 (by decide) ?_
    exact P_zret d_CM_keepsCorners_47 rfl rfl (le_b rfl) (le_b rfl) ⟨⟨true, rfl⟩, hIj1, hFj1⟩
  · rintro j1 uj1 hj1 ⟨hIj1, hFj1⟩ kkj1
    show PW _ _ _ _ _ _ (2, [(0, .ref 0), (1, .int (nI m)), (2, .int (nI q)), (3, .int (nI j1))], [], uj1)
    refine P_iload_n d_CM_keepsCorners_2 rfl ?_
    refine P_iconst (v := 4) d_CM_keepsCorners_3 (by decide) ?_
    refine P_icmp_ge 46 d_CM_keepsCorners_4 (by decide) (fun h => absurd h (nI_geF (a := j1) (b := 4) (by omega) (by omega))) (fun _ => ?_)
    refine P_aload_n d_CM_keepsCorners_7 rfl ?_
    refine P_getf (i := 0) d_CM_keepsCorners_8 ok_CM (by decide) L_CM_12 ((hFj1.2 _ (SC_f (by omega))).trans e0) rfl ?_
    refine P_getfN (i := 1) d_CM_keepsCorners_11 ok_Plane (by decide) L_CM_157 ((hFj1.2 _ (SC_f (by omega))).trans eb) rfl ?_
    refine P_iload_n d_CM_keepsCorners_14 rfl ?_
    refine P_aald (j := m) (q := b + 2 + 1 + m) d_CM_keepsCorners_15 (hIj1.ms hb) rfl (ix_nI (by omega)) (by omega) (rows_at (by omega)) ?_
    refine P_aload_n d_CM_keepsCorners_16 rfl ?_
    refine P_getf (i := 0) d_CM_keepsCorners_17 ok_CM (by decide) L_CM_12 ((hFj1.2 _ (SC_f (by omega))).trans e0) rfl ?_
    refine P_getfN (i := 0) d_CM_keepsCorners_20 ok_Plane (by decide) L_CM_142 ((hFj1.2 _ (SC_f (by omega))).trans eb) rfl ?_
    refine P_iload_n d_CM_keepsCorners_23 rfl ?_
    refine P_aald (j := q) (q := b + 1 + 27 + 6 * q) d_CM_keepsCorners_24 (hIj1.qs hb) rfl (ix_nI (by omega)) (by omega) (pq_at (by omega)) ?_
    refine P_getfN (i := 0) d_CM_keepsCorners_25 ok_Quad (by decide) L_CM_146 (hIj1.quad hb (by omega)) rfl ?_
    refine P_iload_n d_CM_keepsCorners_28 rfl ?_
    refine P_aald (j := j1) (q := b + 1 + 27 + 6 * q + 1 + 1 + j1) d_CM_keepsCorners_29 (hIj1.rows (by omega) (Kc_q hb (by omega)).2.1) rfl (ix_nI (by omega)) (by omega) (rows_at (by omega)) ?_
    obtain ⟨f2, f2e⟩ := hIj1.row (r := b + 2 + 1 + m) (by omega) (Kc_m hb (by omega))
    obtain ⟨f3, f3e⟩ := hIj1.row (r := b + 1 + 27 + 6 * q + 1 + 1 + j1) (by omega) ((Kc_q hb (by omega)).2.2 _ (by omega))
    refine P_callS (M := M_CM_keepsCorners) (pc := 30) (as := [.ref (b + 2 + 1 + m), .ref (b + 1 + 27 + 6 * q + 1 + 1 + j1)]) d_CM_keepsCorners_30 co_Maps_height L_CM_375 sm_Maps_height (s_Maps_height f2e f3e) rfl ⟨by decide, by decide⟩ ⟨by decide, by decide⟩ (by exact le_b rfl) ?_ _ rfl
    rintro _ u ⟨⟨v4, rfl⟩, eu⟩
    subst u
    show PW _ _ _ _ _ _ (33, [(0, .ref 0), (1, .int (nI m)), (2, .int (nI q)), (3, .int (nI j1))], [.long v4], uj1)
    refine P_lconst (v := 0) d_CM_keepsCorners_33 (by decide) ?_
    refine P_lcmp d_CM_keepsCorners_34 ?_
    refine P_if_ne 40 d_CM_keepsCorners_35 (by decide) (fun c5 => ?_) (fun c5 => ?_)
    · refine P_iinc (v := nI (j1 + 1)) d_CM_keepsCorners_40 (by decide) rfl (nI_add j1 1) rfl ?_
      refine P_goto 2 d_CM_keepsCorners_43 (by decide) ?_
      exact kkj1 (uj1) ⟨hIj1, hFj1⟩
    · refine P_iconst (v := 0) d_CM_keepsCorners_38 (by decide) ?_
      exact P_zret d_CM_keepsCorners_39 rfl rfl (le_b rfl) (le_b rfl) ⟨⟨false, rfl⟩, hIj1, hFj1⟩
theorem s_CM_cornersThatHit {G : pG} {w : pW} (hG : GO G) (hI : I w) (m : Nat) (hm : m < 16) (q : Nat) (hq : q < 8) (s : Nat) (hs : s < 8) : PM G M_CM_cornersThatHit 4 0 0 [.ref 0, .int (nI m), .int (nI q), .int (nI s)] w (fun r w' => (∃ v, r = some (.int v)) ∧ I w' ∧ Fr SC w w') := by
  refine PM_of pn_CM_cornersThatHit (le_b rfl) ?_
  show PW _ _ _ _ _ _ (0, [(0, .ref 0), (1, .int (nI m)), (2, .int (nI q)), (3, .int (nI s))], [], w)
  obtain ⟨b, hb, e0⟩ := hI.cm
  obtain ⟨hb1, hb2⟩ := pl_rng hb
  obtain ⟨lc, qc, mc, pc, eb, hlc, hqc, hmc, hpc⟩ := hI.pl hb
  refine P_iconst (v := 0) d_CM_cornersThatHit_0 (by decide) ?_
  refine P_istore d_CM_cornersThatHit_1 (by decide) rfl ?_
  refine P_iconst (v := 0) d_CM_cornersThatHit_3 (by decide) ?_
  refine P_istore d_CM_cornersThatHit_4 (by decide) rfl ?_
  refine PW_ind (σ := Int32 × pW) (4) (fun jj ss => I (ss.2) ∧ Fr SC w (ss.2)) (fun jj ss => (6, [(0, .ref 0), (1, .int (nI m)), (2, .int (nI q)), (3, .int (nI s)), (4, .int ss.1), (5, .int (nI jj))], [], ss.2)) ?_ ?_ 0 (0, w) (by omega) ⟨hI, Fr.rf⟩
  · rintro ⟨j1_4, uj1⟩ ⟨hIj1, hFj1⟩
    show PW _ _ _ _ _ _ (6, [(0, .ref 0), (1, .int (nI m)), (2, .int (nI q)), (3, .int (nI s)), (4, .int j1_4), (5, .int 4)], [], uj1)
    refine P_iload d_CM_cornersThatHit_6 rfl ?_
    refine P_iconst (v := 4) d_CM_cornersThatHit_8 (by decide) ?_
    refine P_icmp_ge 71 d_CM_cornersThatHit_9 (by decide) (fun _ => ?_) (fun h => absurd (by decide) h)
    refine P_iload d_CM_cornersThatHit_71 rfl ?_
    exact P_iret d_CM_cornersThatHit_73 rfl (le_b rfl) (le_b rfl) ⟨⟨_, rfl⟩, hIj1, hFj1⟩
  · rintro j1 ⟨j1_4, uj1⟩ hj1 ⟨hIj1, hFj1⟩ kkj1
    show PW _ _ _ _ _ _ (6, [(0, .ref 0), (1, .int (nI m)), (2, .int (nI q)), (3, .int (nI s)), (4, .int j1_4), (5, .int (nI j1))], [], uj1)
    refine P_iload d_CM_cornersThatHit_6 rfl ?_
    refine P_iconst (v := 4) d_CM_cornersThatHit_8 (by decide) ?_
    refine P_icmp_ge 71 d_CM_cornersThatHit_9 (by decide) (fun h => absurd h (nI_geF (a := j1) (b := 4) (by omega) (by omega))) (fun _ => ?_)
    refine P_aload_n d_CM_cornersThatHit_12 rfl ?_
    refine P_getf (i := 0) d_CM_cornersThatHit_13 ok_CM (by decide) L_CM_12 ((hFj1.2 _ (SC_f (by omega))).trans e0) rfl ?_
    refine P_getfN (i := 1) d_CM_cornersThatHit_16 ok_Plane (by decide) L_CM_157 ((hFj1.2 _ (SC_f (by omega))).trans eb) rfl ?_
    refine P_iload_n d_CM_cornersThatHit_19 rfl ?_
    refine P_aald (j := m) (q := b + 2 + 1 + m) d_CM_cornersThatHit_20 (hIj1.ms hb) rfl (ix_nI (by omega)) (by omega) (rows_at (by omega)) ?_
    refine P_aload_n d_CM_cornersThatHit_21 rfl ?_
    refine P_getf (i := 0) d_CM_cornersThatHit_22 ok_CM (by decide) L_CM_12 ((hFj1.2 _ (SC_f (by omega))).trans e0) rfl ?_
    refine P_getfN (i := 0) d_CM_cornersThatHit_25 ok_Plane (by decide) L_CM_142 ((hFj1.2 _ (SC_f (by omega))).trans eb) rfl ?_
    refine P_iload_n d_CM_cornersThatHit_28 rfl ?_
    refine P_aald (j := q) (q := b + 1 + 27 + 6 * q) d_CM_cornersThatHit_29 (hIj1.qs hb) rfl (ix_nI (by omega)) (by omega) (pq_at (by omega)) ?_
    refine P_getfN (i := 0) d_CM_cornersThatHit_30 ok_Quad (by decide) L_CM_146 (hIj1.quad hb (by omega)) rfl ?_
    refine P_iload d_CM_cornersThatHit_33 rfl ?_
    refine P_aald (j := j1) (q := b + 1 + 27 + 6 * q + 1 + 1 + j1) d_CM_cornersThatHit_35 (hIj1.rows (by omega) (Kc_q hb (by omega)).2.1) rfl (ix_nI (by omega)) (by omega) (rows_at (by omega)) ?_
    refine P_aload_n d_CM_cornersThatHit_36 rfl ?_
    refine P_getf (i := 12) d_CM_cornersThatHit_37 ok_CM (by decide) L_CM_78 ((hFj1.2 _ (SC_f (by omega))).trans e0) rfl ?_
    obtain ⟨f2, f2e⟩ := hIj1.row (r := b + 2 + 1 + m) (by omega) (Kc_m hb (by omega))
    obtain ⟨f3, f3e⟩ := hIj1.row (r := b + 1 + 27 + 6 * q + 1 + 1 + j1) (by omega) ((Kc_q hb (by omega)).2.2 _ (by omega))
    obtain ⟨f4, f4e⟩ := hIj1.row (r := 453) (by decide) kc_453
    refine P_callS (M := M_CM_cornersThatHit) (pc := 40) (as := [.ref (b + 2 + 1 + m), .ref (b + 1 + 27 + 6 * q + 1 + 1 + j1), .ref 453]) d_CM_cornersThatHit_40 co_Maps_apply L_CM_248 sm_Maps_apply (s_Maps_apply f2e f3e f4e (by decide) (by omega) (by omega)) rfl ⟨by decide, by decide⟩ ⟨by decide, by decide⟩ (by exact le_b rfl) ?_ _ rfl
    rintro _ w5 ⟨rfl, g5, e5⟩
    have s5 := w_s e5
    have hI5 : I w5 := hIj1.setL e5 kc_453
    have hF5 : Fr SC w w5 := Fr.set hFj1 e5 (SC_t (by omega))
    show PW _ _ _ _ _ _ (43, [(0, .ref 0), (1, .int (nI m)), (2, .int (nI q)), (3, .int (nI s)), (4, .int j1_4), (5, .int (nI j1))], [], w5)
    refine P_aload_n d_CM_cornersThatHit_43 rfl ?_
    refine P_getf (i := 0) d_CM_cornersThatHit_44 ok_CM (by decide) L_CM_12 ((hF5.2 _ (SC_f (by omega))).trans e0) rfl ?_
    refine P_getfN (i := 0) d_CM_cornersThatHit_47 ok_Plane (by decide) L_CM_142 ((hF5.2 _ (SC_f (by omega))).trans eb) rfl ?_
    refine P_iload_n d_CM_cornersThatHit_50 rfl ?_
    refine P_aald (j := s) (q := b + 1 + 27 + 6 * s) d_CM_cornersThatHit_51 (hI5.qs hb) rfl (ix_nI (by omega)) (by omega) (pq_at (by omega)) ?_
    refine P_aload_n d_CM_cornersThatHit_52 rfl ?_
    refine P_getf (i := 12) d_CM_cornersThatHit_53 ok_CM (by decide) L_CM_78 ((hF5.2 _ (SC_f (by omega))).trans e0) rfl ?_
    refine P_callV (M := M_CM_cornersThatHit) (pc := 56) (as := [.ref 453]) (b := b + 1 + 27 + 6 * s) d_CM_cornersThatHit_56 co_Quad_hasCorner ok_Quad (hI5.quad hb (by omega)) L_CM_455 im_Quad_hasCorner se_Quad_hasCorner (s_Quad_hasCorner (hI5.quadS hb (q := s) (by omega)) s5) rfl ⟨by decide, by decide⟩ ⟨by decide, by decide⟩ (by exact le_b rfl) ?_ _ rfl
    rintro _ u ⟨⟨v6, rfl⟩, eu⟩
    subst u
    show PW _ _ _ _ _ _ (59, [(0, .ref 0), (1, .int (nI m)), (2, .int (nI q)), (3, .int (nI s)), (4, .int j1_4), (5, .int (nI j1))], [.int (bi v6)], w5)
    refine P_if_eq 65 d_CM_cornersThatHit_59 (by decide) (fun c7 => ?_) (fun c7 => ?_)
    · refine P_iinc (v := nI (j1 + 1)) d_CM_cornersThatHit_65 (by decide) rfl (nI_add j1 1) rfl ?_
      refine P_goto 6 d_CM_cornersThatHit_68 (by decide) ?_
      exact kkj1 (j1_4, w5) ⟨hI5, hF5⟩
    · refine P_iinc (v := j1_4 + Int32.ofInt 1) d_CM_cornersThatHit_62 (by decide) rfl rfl rfl ?_
      show PW _ _ _ _ _ _ (65, [(0, .ref 0), (1, .int (nI m)), (2, .int (nI q)), (3, .int (nI s)), (4, .int (j1_4 + Int32.ofInt 1)), (5, .int (nI j1))], [], w5)
      refine P_iinc (v := nI (j1 + 1)) d_CM_cornersThatHit_65 (by decide) rfl (nI_add j1 1) rfl ?_
      refine P_goto 6 d_CM_cornersThatHit_68 (by decide) ?_
      exact kkj1 (j1_4 + Int32.ofInt 1, w5) ⟨hI5, hF5⟩
theorem s_Maker_between {G : pG} {w : pW} (hG : GO G) (hI : I w) {x : Nat} (hxx : QX x) {y : Nat} (hxy : QX y) (k : Nat) (hk : k < 24) {o : Nat} (hlo : o < 487) (hko : Kc o = (1, 9, 0)) (hso : (155 ≤ o ∧ o < 164) ∨ (190 ≤ o ∧ o < 467)) (ho : 449 ≤ o) : PM G M_Maker_between 4 0 0 [.ref 155, .ref x, .ref y, .int (nI k), .ref o] w (fun r w' => r = none ∧ I w' ∧ Fr SC w w') := by
  refine PM_of pn_Maker_between (le_b rfl) ?_
  show PW _ _ _ _ _ _ (0, [(0, .ref 155), (1, .ref x), (2, .ref y), (3, .int (nI k)), (4, .ref o)], [], w)
  refine P_aload_n d_Maker_between_0 rfl ?_
  refine P_iconst (v := 0) d_Maker_between_1 (by decide) ?_
  refine P_aload_n d_Maker_between_2 rfl ?_
  refine P_getf (i := 0) d_Maker_between_3 ok_Maker (by decide) L_Maker_7 (hI.mk) rfl ?_
  obtain ⟨f1, f1e⟩ := hI.row (r := 156) (by decide) kc_156
  refine P_callV (M := M_Maker_between) (pc := 6) (as := [.int 0, .ref 156]) (b := x) d_Maker_between_6 co_Quad_putFrame ok_Quad (hI.qx hxx).1 L_Maker_23 im_Quad_putFrame se_Quad_putFrame (s_Quad_putFrame (hI.qx hxx) 0 (by decide) f1e (by decide) (fun k hk => QX_ne hxx hk (by omega)) hG) rfl ⟨by decide, by decide⟩ ⟨by decide, by decide⟩ (by exact le_b rfl) ?_ _ rfl
  rintro _ w2 ⟨rfl, g2, e2⟩
  have s2 := w_s e2
  have hI2 : I w2 := hI.setL e2 kc_156
  have hF2 : Fr SC w w2 := Fr.set Fr.rf e2 (SC_t (by omega))
  show PW _ _ _ _ _ _ (9, [(0, .ref 155), (1, .ref x), (2, .ref y), (3, .int (nI k)), (4, .ref o)], [], w2)
  refine P_aload_n d_Maker_between_9 rfl ?_
  refine P_getf (i := 0) d_Maker_between_10 ok_Maker (by decide) L_Maker_7 (hI2.mk) rfl ?_
  refine P_aload_n d_Maker_between_13 rfl ?_
  refine P_getf (i := 1) d_Maker_between_14 ok_Maker (by decide) L_Maker_13 (hI2.mk) rfl ?_
  obtain ⟨f3, f3e⟩ := hI2.row (r := 157) (by decide) kc_157
  refine P_callS (M := M_Maker_between) (pc := 17) (as := [.ref 156, .ref 157]) d_Maker_between_17 co_Maps_invert L_Maker_27 sm_Maps_invert (s_Maps_invert s2 f3e (by decide) (by decide)) rfl ⟨by decide, by decide⟩ ⟨by decide, by decide⟩ (by exact le_b rfl) ?_ _ rfl
  rintro _ w4 ⟨rfl, g4, e4⟩
  have s4 := w_s e4
  have hI4 : I w4 := hI2.setL e4 kc_157
  have hF4 : Fr SC w w4 := Fr.set hF2 e4 (SC_t (by omega))
  show PW _ _ _ _ _ _ (20, [(0, .ref 155), (1, .ref x), (2, .ref y), (3, .int (nI k)), (4, .ref o)], [], w4)
  refine P_aload_n d_Maker_between_20 rfl ?_
  refine P_iload_n d_Maker_between_21 rfl ?_
  refine P_aload_n d_Maker_between_22 rfl ?_
  refine P_getf (i := 0) d_Maker_between_23 ok_Maker (by decide) L_Maker_7 (hI4.mk) rfl ?_
  obtain ⟨f5, f5e⟩ := hI4.row (r := 156) (by decide) kc_156
  refine P_callV (M := M_Maker_between) (pc := 26) (as := [.int (nI k), .ref 156]) (b := y) d_Maker_between_26 co_Quad_putFrame ok_Quad (hI4.qx hxy).1 L_Maker_23 im_Quad_putFrame se_Quad_putFrame (s_Quad_putFrame (hI4.qx hxy) k (by omega) f5e (by decide) (fun k hk => QX_ne hxy hk (by omega)) hG) rfl ⟨by decide, by decide⟩ ⟨by decide, by decide⟩ (by exact le_b rfl) ?_ _ rfl
  rintro _ w6 ⟨rfl, g6, e6⟩
  have s6 := w_s e6
  have hI6 : I w6 := hI4.setL e6 kc_156
  have hF6 : Fr SC w w6 := Fr.set hF4 e6 (SC_t (by omega))
  show PW _ _ _ _ _ _ (29, [(0, .ref 155), (1, .ref x), (2, .ref y), (3, .int (nI k)), (4, .ref o)], [], w6)
  refine P_aload_n d_Maker_between_29 rfl ?_
  refine P_getf (i := 0) d_Maker_between_30 ok_Maker (by decide) L_Maker_7 (hI6.mk) rfl ?_
  refine P_aload_n d_Maker_between_33 rfl ?_
  refine P_getf (i := 1) d_Maker_between_34 ok_Maker (by decide) L_Maker_13 (hI6.mk) rfl ?_
  refine P_aload d_Maker_between_37 rfl ?_
  obtain ⟨f7, f7e⟩ := hI6.row (r := 157) (by decide) kc_157
  obtain ⟨f8, f8e⟩ := hI6.row (r := o) (by omega) hko
  refine P_callS (M := M_Maker_between) (pc := 39) (as := [.ref 156, .ref 157, .ref o]) d_Maker_between_39 co_Maps_multiply L_Maker_33 sm_Maps_multiply (s_Maps_multiply s6 f7e f8e (by omega) (by omega) (by omega)) rfl ⟨by decide, by decide⟩ ⟨by decide, by decide⟩ (by exact le_b rfl) ?_ _ rfl
  rintro _ w9 ⟨rfl, g9, e9⟩
  have s9 := w_s e9
  have hI9 : I w9 := hI6.setL e9 hko
  have hF9 : Fr SC w w9 := Fr.set hF6 e9 (SC_t (by omega))
  show PW _ _ _ _ _ _ (42, [(0, .ref 155), (1, .ref x), (2, .ref y), (3, .int (nI k)), (4, .ref o)], [], w9)
  exact P_vret d_Maker_between_42 rfl (le_b rfl) (le_b rfl) ⟨rfl, hI9, hF9⟩
theorem s_Maker_toSquare {G : pG} {w : pW} (hG : GO G) (hI : I w) {x : Nat} (hxx : QX x) (a : Int32) {o : Nat} (hlo : o < 487) (hko : Kc o = (1, 9, 0)) (hso : (155 ≤ o ∧ o < 164) ∨ (190 ≤ o ∧ o < 467)) (ho : 449 ≤ o) : PM G M_Maker_toSquare 5 0 0 [.ref 155, .ref x, .int a, .ref o] w (fun r w' => r = none ∧ I w' ∧ Fr SC w w') := by
  refine PM_of pn_Maker_toSquare (le_b rfl) ?_
  show PW _ _ _ _ _ _ (0, [(0, .ref 155), (1, .ref x), (2, .int a), (3, .ref o)], [], w)
  refine P_lconst (v := 0) d_Maker_toSquare_0 (by decide) ?_
  refine P_lconst (v := 0) d_Maker_toSquare_1 (by decide) ?_
  refine P_lconst (v := 1) d_Maker_toSquare_2 (by decide) ?_
  refine P_aload_n d_Maker_toSquare_3 rfl ?_
  refine P_getf (i := 2) d_Maker_toSquare_4 ok_Maker (by decide) L_Maker_19 (hI.mk) rfl ?_
  refine P_getfN (i := 0) d_Maker_toSquare_7 ok_Quad (by decide) L_Maker_37 (hI.quadO (r := 158) (by decide) kc_158) rfl ?_
  refine P_iconst (v := 0) d_Maker_toSquare_10 (by decide) ?_
  refine P_aald (j := 0) (q := 160) d_Maker_toSquare_11 (hI.rows (r := 159) (by decide) kc_159) rfl ⟨by decide, by decide⟩ (by decide) (rows_at (by omega)) ?_
  obtain ⟨f1, f1e⟩ := hI.row (r := 160) (by decide) kc_160
  refine P_callS (M := M_Maker_toSquare) (pc := 12) (as := [.long 0, .long 0, .long 1, .ref 160]) d_Maker_toSquare_12 co_Rows_put L_Maker_41 sm_Rows_put (v_Rows_put f1e (by decide) 0 0 1) rfl ⟨by decide, by decide⟩ ⟨by decide, by decide⟩ (by exact le_b rfl) ?_ _ rfl
  rintro _ w2 ⟨rfl, e2⟩
  have s2 := w_s e2
  generalize p3 _ _ _ _ = g3 at e2 s2
  have hI2 : I w2 := hI.setL e2 kc_160
  have hF2 : Fr SC w w2 := Fr.set Fr.rf e2 (SC_t (by omega))
  show PW _ _ _ _ _ _ (15, [(0, .ref 155), (1, .ref x), (2, .int a), (3, .ref o)], [], w2)
  refine P_iload_n d_Maker_toSquare_15 rfl ?_
  refine P_i2l d_Maker_toSquare_16 ?_
  refine P_lconst (v := 0) d_Maker_toSquare_17 (by decide) ?_
  refine P_lconst (v := 1) d_Maker_toSquare_18 (by decide) ?_
  refine P_aload_n d_Maker_toSquare_19 rfl ?_
  refine P_getf (i := 2) d_Maker_toSquare_20 ok_Maker (by decide) L_Maker_19 (hI2.mk) rfl ?_
  refine P_getfN (i := 0) d_Maker_toSquare_23 ok_Quad (by decide) L_Maker_37 (hI2.quadO (r := 158) (by decide) kc_158) rfl ?_
  refine P_iconst (v := 1) d_Maker_toSquare_26 (by decide) ?_
  refine P_aald (j := 1) (q := 161) d_Maker_toSquare_27 (hI2.rows (r := 159) (by decide) kc_159) rfl ⟨by decide, by decide⟩ (by decide) (rows_at (by omega)) ?_
  obtain ⟨f4, f4e⟩ := hI2.row (r := 161) (by decide) kc_161
  refine P_callS (M := M_Maker_toSquare) (pc := 28) (as := [.long a.toInt64, .long 0, .long 1, .ref 161]) d_Maker_toSquare_28 co_Rows_put L_Maker_41 sm_Rows_put (v_Rows_put f4e (by decide) a.toInt64 0 1) rfl ⟨by decide, by decide⟩ ⟨by decide, by decide⟩ (by exact le_b rfl) ?_ _ rfl
  rintro _ w5 ⟨rfl, e5⟩
  have s5 := w_s e5
  generalize p3 _ _ _ _ = g6 at e5 s5
  have hI5 : I w5 := hI2.setL e5 kc_161
  have hF5 : Fr SC w w5 := Fr.set hF2 e5 (SC_t (by omega))
  show PW _ _ _ _ _ _ (31, [(0, .ref 155), (1, .ref x), (2, .int a), (3, .ref o)], [], w5)
  refine P_iload_n d_Maker_toSquare_31 rfl ?_
  refine P_i2l d_Maker_toSquare_32 ?_
  refine P_iload_n d_Maker_toSquare_33 rfl ?_
  refine P_i2l d_Maker_toSquare_34 ?_
  refine P_lconst (v := 1) d_Maker_toSquare_35 (by decide) ?_
  refine P_aload_n d_Maker_toSquare_36 rfl ?_
  refine P_getf (i := 2) d_Maker_toSquare_37 ok_Maker (by decide) L_Maker_19 (hI5.mk) rfl ?_
  refine P_getfN (i := 0) d_Maker_toSquare_40 ok_Quad (by decide) L_Maker_37 (hI5.quadO (r := 158) (by decide) kc_158) rfl ?_
  refine P_iconst (v := 2) d_Maker_toSquare_43 (by decide) ?_
  refine P_aald (j := 2) (q := 162) d_Maker_toSquare_44 (hI5.rows (r := 159) (by decide) kc_159) rfl ⟨by decide, by decide⟩ (by decide) (rows_at (by omega)) ?_
  obtain ⟨f7, f7e⟩ := hI5.row (r := 162) (by decide) kc_162
  refine P_callS (M := M_Maker_toSquare) (pc := 45) (as := [.long a.toInt64, .long a.toInt64, .long 1, .ref 162]) d_Maker_toSquare_45 co_Rows_put L_Maker_41 sm_Rows_put (v_Rows_put f7e (by decide) a.toInt64 a.toInt64 1) rfl ⟨by decide, by decide⟩ ⟨by decide, by decide⟩ (by exact le_b rfl) ?_ _ rfl
  rintro _ w8 ⟨rfl, e8⟩
  have s8 := w_s e8
  generalize p3 _ _ _ _ = g9 at e8 s8
  have hI8 : I w8 := hI5.setL e8 kc_162
  have hF8 : Fr SC w w8 := Fr.set hF5 e8 (SC_t (by omega))
  show PW _ _ _ _ _ _ (48, [(0, .ref 155), (1, .ref x), (2, .int a), (3, .ref o)], [], w8)
  refine P_lconst (v := 0) d_Maker_toSquare_48 (by decide) ?_
  refine P_iload_n d_Maker_toSquare_49 rfl ?_
  refine P_i2l d_Maker_toSquare_50 ?_
  refine P_lconst (v := 1) d_Maker_toSquare_51 (by decide) ?_
  refine P_aload_n d_Maker_toSquare_52 rfl ?_
  refine P_getf (i := 2) d_Maker_toSquare_53 ok_Maker (by decide) L_Maker_19 (hI8.mk) rfl ?_
  refine P_getfN (i := 0) d_Maker_toSquare_56 ok_Quad (by decide) L_Maker_37 (hI8.quadO (r := 158) (by decide) kc_158) rfl ?_
  refine P_iconst (v := 3) d_Maker_toSquare_59 (by decide) ?_
  refine P_aald (j := 3) (q := 163) d_Maker_toSquare_60 (hI8.rows (r := 159) (by decide) kc_159) rfl ⟨by decide, by decide⟩ (by decide) (rows_at (by omega)) ?_
  obtain ⟨f10, f10e⟩ := hI8.row (r := 163) (by decide) kc_163
  refine P_callS (M := M_Maker_toSquare) (pc := 61) (as := [.long 0, .long a.toInt64, .long 1, .ref 163]) d_Maker_toSquare_61 co_Rows_put L_Maker_41 sm_Rows_put (v_Rows_put f10e (by decide) 0 a.toInt64 1) rfl ⟨by decide, by decide⟩ ⟨by decide, by decide⟩ (by exact le_b rfl) ?_ _ rfl
  rintro _ w11 ⟨rfl, e11⟩
  have s11 := w_s e11
  generalize p3 _ _ _ _ = g12 at e11 s11
  have hI11 : I w11 := hI8.setL e11 kc_163
  have hF11 : Fr SC w w11 := Fr.set hF8 e11 (SC_t (by omega))
  show PW _ _ _ _ _ _ (64, [(0, .ref 155), (1, .ref x), (2, .int a), (3, .ref o)], [], w11)
  refine P_aload_n d_Maker_toSquare_64 rfl ?_
  refine P_aload_n d_Maker_toSquare_65 rfl ?_
  refine P_aload_n d_Maker_toSquare_66 rfl ?_
  refine P_getf (i := 2) d_Maker_toSquare_67 ok_Maker (by decide) L_Maker_19 (hI11.mk) rfl ?_
  refine P_iconst (v := 0) d_Maker_toSquare_70 (by decide) ?_
  refine P_aload_n d_Maker_toSquare_71 rfl ?_
  refine P_callV (M := M_Maker_toSquare) (pc := 72) (as := [.ref x, .ref 158, .int 0, .ref o]) (b := 155) d_Maker_toSquare_72 co_Maker_between ok_Maker (hI11.mk) L_Maker_47 im_Maker_between se_Maker_between (s_Maker_between hG hI11 hxx QX_sq 0 (by decide) (by omega) hko (by omega) (by omega)) rfl ⟨by decide, by decide⟩ ⟨by decide, by decide⟩ (by exact le_b rfl) ?_ _ rfl
  rintro _ w13 ⟨rfl, hI13, hG13⟩
  have hF13 : Fr SC w w13 := Fr.tr hF11 hG13
  show PW _ _ _ _ _ _ (75, [(0, .ref 155), (1, .ref x), (2, .int a), (3, .ref o)], [], w13)
  exact P_vret d_Maker_toSquare_75 rfl (le_b rfl) (le_b rfl) ⟨rfl, hI13, hF13⟩
theorem s_CM_shape {G : pG} {w : pW} (hG : GO G) (hI : I w) (a1 : Int32) : PM G M_CM_shape 3 0 0 [.ref 0, .int a1] w (fun r w' => (∃ v, r = some (.int v)) ∧ I w' ∧ Fr SC w w') := by
  refine PM_of pn_CM_shape (le_b rfl) ?_
  show PW _ _ _ _ _ _ (0, [(0, .ref 0), (1, .int a1)], [], w)
  obtain ⟨b, hb, e0⟩ := hI.cm
  obtain ⟨hb1, hb2⟩ := pl_rng hb
  obtain ⟨lc, qc, mc, pc, eb, hlc, hqc, hmc, hpc⟩ := hI.pl hb
  refine P_aload_n d_CM_shape_0 rfl ?_
  refine P_getf (i := 0) d_CM_shape_1 ok_CM (by decide) L_CM_12 e0 rfl ?_
  refine P_iload_n d_CM_shape_4 rfl ?_
  refine P_callV (M := M_CM_shape) (pc := 5) (as := [.int a1]) (b := b) d_CM_shape_5 co_Plane_hasQuad ok_Plane eb L_CM_127 im_Plane_hasQuad se_Plane_hasQuad (s_Plane_hasQuad eb hlc hqc hmc hpc a1) rfl ⟨by decide, by decide⟩ ⟨by decide, by decide⟩ (by exact le_b rfl) ?_ _ rfl
  rintro _ u ⟨rfl, eu⟩
  subst u
  show PW _ _ _ _ _ _ (8, [(0, .ref 0), (1, .int a1)], [.int (bi (inN qc a1))], w)
  refine P_if_eq 29 d_CM_shape_8 (by decide) (fun c2 => ?_) (fun c2 => ?_)
  · refine P_iconst (v := (-1)) d_CM_shape_29 (by decide) ?_
    exact P_iret d_CM_shape_30 rfl (le_b rfl) (le_b rfl) ⟨⟨_, rfl⟩, hI, Fr.rf⟩
  · obtain ⟨a1N, ha1N, rfl⟩ := inN_of (bi_1 c2) (by omega)
    refine P_aload_n d_CM_shape_11 rfl ?_
    refine P_getf (i := 0) d_CM_shape_12 ok_CM (by decide) L_CM_12 e0 rfl ?_
    refine P_getfN (i := 0) d_CM_shape_15 ok_Plane (by decide) L_CM_142 eb rfl ?_
    refine P_iload_n d_CM_shape_18 rfl ?_
    refine P_aald (j := a1N) (q := b + 1 + 27 + 6 * a1N) d_CM_shape_19 (hI.qs hb) rfl (ix_nI (by omega)) (by omega) (pq_at (by omega)) ?_
    refine P_callV (M := M_CM_shape) (pc := 20) (as := []) (b := b + 1 + 27 + 6 * a1N) d_CM_shape_20 co_Quad_leftTurns ok_Quad (hI.quad hb (by omega)) L_CM_166 im_Quad_leftTurns se_Quad_leftTurns (s_Quad_leftTurns (hI.quadS hb (q := a1N) (by omega))) rfl ⟨by decide, by decide⟩ ⟨by decide, by decide⟩ (by exact le_b rfl) ?_ _ rfl
    rintro _ u ⟨⟨v3, rfl⟩, eu⟩
    subst u
    show PW _ _ _ _ _ _ (23, [(0, .ref 0), (1, .int (nI a1N))], [.int v3], w)
    refine P_callS (M := M_CM_shape) (pc := 23) (as := [.int v3]) d_CM_shape_23 co_Quad_formOf L_CM_170 sm_Quad_formOf (s_Quad_formOf v3) rfl ⟨by decide, by decide⟩ ⟨by decide, by decide⟩ (by exact le_b rfl) ?_ _ rfl
    rintro _ u ⟨⟨v4, rfl⟩, eu⟩
    subst u
    show PW _ _ _ _ _ _ (26, [(0, .ref 0), (1, .int (nI a1N))], [.int v4], w)
    refine P_goto 30 d_CM_shape_26 (by decide) ?_
    exact P_iret d_CM_shape_30 rfl (le_b rfl) (le_b rfl) ⟨⟨_, rfl⟩, hI, Fr.rf⟩
theorem s_CM_dent {G : pG} {w : pW} (hG : GO G) (hI : I w) (a1 : Int32) : PM G M_CM_dent 3 0 0 [.ref 0, .int a1] w (fun r w' => (∃ v, r = some (.int v)) ∧ I w' ∧ Fr SC w w') := by
  refine PM_of pn_CM_dent (le_b rfl) ?_
  show PW _ _ _ _ _ _ (0, [(0, .ref 0), (1, .int a1)], [], w)
  obtain ⟨b, hb, e0⟩ := hI.cm
  obtain ⟨hb1, hb2⟩ := pl_rng hb
  obtain ⟨lc, qc, mc, pc, eb, hlc, hqc, hmc, hpc⟩ := hI.pl hb
  refine P_aload_n d_CM_dent_0 rfl ?_
  refine P_getf (i := 0) d_CM_dent_1 ok_CM (by decide) L_CM_12 e0 rfl ?_
  refine P_iload_n d_CM_dent_4 rfl ?_
  refine P_callV (M := M_CM_dent) (pc := 5) (as := [.int a1]) (b := b) d_CM_dent_5 co_Plane_hasQuad ok_Plane eb L_CM_127 im_Plane_hasQuad se_Plane_hasQuad (s_Plane_hasQuad eb hlc hqc hmc hpc a1) rfl ⟨by decide, by decide⟩ ⟨by decide, by decide⟩ (by exact le_b rfl) ?_ _ rfl
  rintro _ u ⟨rfl, eu⟩
  subst u
  show PW _ _ _ _ _ _ (8, [(0, .ref 0), (1, .int a1)], [.int (bi (inN qc a1))], w)
  refine P_if_ne 13 d_CM_dent_8 (by decide) (fun c2 => ?_) (fun c2 => ?_)
  · obtain ⟨a1N, ha1N, rfl⟩ := inN_of (bi_1 c2) (by omega)
    refine P_aload_n d_CM_dent_13 rfl ?_
    refine P_getf (i := 0) d_CM_dent_14 ok_CM (by decide) L_CM_12 e0 rfl ?_
    refine P_getfN (i := 0) d_CM_dent_17 ok_Plane (by decide) L_CM_142 eb rfl ?_
    refine P_iload_n d_CM_dent_20 rfl ?_
    refine P_aald (j := a1N) (q := b + 1 + 27 + 6 * a1N) d_CM_dent_21 (hI.qs hb) rfl (ix_nI (by omega)) (by omega) (pq_at (by omega)) ?_
    refine P_callV (M := M_CM_dent) (pc := 22) (as := []) (b := b + 1 + 27 + 6 * a1N) d_CM_dent_22 co_Quad_leftTurns ok_Quad (hI.quad hb (by omega)) L_CM_166 im_Quad_leftTurns se_Quad_leftTurns (s_Quad_leftTurns (hI.quadS hb (q := a1N) (by omega))) rfl ⟨by decide, by decide⟩ ⟨by decide, by decide⟩ (by exact le_b rfl) ?_ _ rfl
    rintro _ u ⟨⟨v3, rfl⟩, eu⟩
    subst u
    show PW _ _ _ _ _ _ (25, [(0, .ref 0), (1, .int (nI a1N))], [.int v3], w)
    refine P_istore_n d_CM_dent_25 (by decide) rfl ?_
    refine P_iload_n d_CM_dent_26 rfl ?_
    refine P_callS (M := M_CM_dent) (pc := 27) (as := [.int v3]) d_CM_dent_27 co_Quad_formOf L_CM_170 sm_Quad_formOf (s_Quad_formOf v3) rfl ⟨by decide, by decide⟩ ⟨by decide, by decide⟩ (by exact le_b rfl) ?_ _ rfl
    rintro _ u ⟨⟨v4, rfl⟩, eu⟩
    subst u
    show PW _ _ _ _ _ _ (30, [(0, .ref 0), (1, .int (nI a1N)), (2, .int v3)], [.int v4], w)
    refine P_iconst (v := 1) d_CM_dent_30 (by decide) ?_
    refine P_icmp_eq 37 d_CM_dent_31 (by decide) (fun c5 => ?_) (fun c5 => ?_)
    · refine P_iload_n d_CM_dent_37 rfl ?_
      refine P_callS (M := M_CM_dent) (pc := 38) (as := [.int v3]) d_CM_dent_38 co_Integer_bitCount L_CM_174 sm_Integer_bitCount (s_Integer_bitCount v3) rfl ⟨by decide, by decide⟩ ⟨by decide, by decide⟩ (by exact le_b rfl) ?_ _ rfl
      rintro _ u ⟨⟨v6, rfl⟩, eu⟩
      subst u
      show PW _ _ _ _ _ _ (41, [(0, .ref 0), (1, .int (nI a1N)), (2, .int v3)], [.int v6], w)
      refine P_iconst (v := 1) d_CM_dent_41 (by decide) ?_
      refine P_icmp_ne 49 d_CM_dent_42 (by decide) (fun c7 => ?_) (fun c7 => ?_)
      · refine P_bipush (v := 15) d_CM_dent_49 (by decide) ?_
        refine P_iload_n d_CM_dent_51 rfl ?_
        refine P_isub d_CM_dent_52 ?_
        refine P_istore_n d_CM_dent_53 (by decide) rfl ?_
        refine P_iconst (v := 0) d_CM_dent_54 (by decide) ?_
        refine P_istore d_CM_dent_55 (by decide) rfl ?_
        refine PW_ind (σ := pW) (3) (fun jj ss => I (ss) ∧ Fr SC w (ss)) (fun jj ss => (57, [(0, .ref 0), (1, .int (nI a1N)), (2, .int v3), (3, .int (15 - v3)), (4, .int (nI jj))], [], ss)) ?_ ?_ 0 (w) (by omega) ⟨hI, Fr.rf⟩
        · rintro uj8 ⟨hIj8, hFj8⟩
          show PW _ _ _ _ _ _ (57, [(0, .ref 0), (1, .int (nI a1N)), (2, .int v3), (3, .int (15 - v3)), (4, .int 3)], [], uj8)
          refine P_iload d_CM_dent_57 rfl ?_
          refine P_iconst (v := 3) d_CM_dent_59 (by decide) ?_
          refine P_icmp_ge 80 d_CM_dent_60 (by decide) (fun _ => ?_) (fun h => absurd (by decide) h)
          refine P_iconst (v := 3) d_CM_dent_80 (by decide) ?_
          exact P_iret d_CM_dent_81 rfl (le_b rfl) (le_b rfl) ⟨⟨_, rfl⟩, hIj8, hFj8⟩
        · rintro j8 uj8 hj8 ⟨hIj8, hFj8⟩ kkj8
          show PW _ _ _ _ _ _ (57, [(0, .ref 0), (1, .int (nI a1N)), (2, .int v3), (3, .int (15 - v3)), (4, .int (nI j8))], [], uj8)
          refine P_iload d_CM_dent_57 rfl ?_
          refine P_iconst (v := 3) d_CM_dent_59 (by decide) ?_
          refine P_icmp_ge 80 d_CM_dent_60 (by decide) (fun h => absurd h (nI_geF (a := j8) (b := 3) (by omega) (by omega))) (fun _ => ?_)
          refine P_iload_n d_CM_dent_63 rfl ?_
          refine P_iconst (v := 1) d_CM_dent_64 (by decide) ?_
          refine P_iload d_CM_dent_65 rfl ?_
          refine P_ishl d_CM_dent_67 ?_
          generalize (1 : Int32) <<< ((nI j8) &&& 31) = zz9
          show PW _ _ _ _ _ _ (68, [(0, .ref 0), (1, .int (nI a1N)), (2, .int v3), (3, .int (15 - v3)), (4, .int (nI j8))], [.int zz9, .int (15 - v3)], uj8)
          refine P_icmp_ne 74 d_CM_dent_68 (by decide) (fun c10 => ?_) (fun c10 => ?_)
          · refine P_iinc (v := nI (j8 + 1)) d_CM_dent_74 (by decide) rfl (nI_add j8 1) rfl ?_
            refine P_goto 57 d_CM_dent_77 (by decide) ?_
            exact kkj8 (uj8) ⟨hIj8, hFj8⟩
          · refine P_iload d_CM_dent_71 rfl ?_
            exact P_iret d_CM_dent_73 rfl (le_b rfl) (le_b rfl) ⟨⟨_, rfl⟩, hIj8, hFj8⟩
      · refine P_iload_n d_CM_dent_45 rfl ?_
        refine P_goto 53 d_CM_dent_46 (by decide) ?_
        refine P_istore_n d_CM_dent_53 (by decide) rfl ?_
        refine P_iconst (v := 0) d_CM_dent_54 (by decide) ?_
        refine P_istore d_CM_dent_55 (by decide) rfl ?_
        refine PW_ind (σ := pW) (3) (fun jj ss => I (ss) ∧ Fr SC w (ss)) (fun jj ss => (57, [(0, .ref 0), (1, .int (nI a1N)), (2, .int v3), (3, .int v3), (4, .int (nI jj))], [], ss)) ?_ ?_ 0 (w) (by omega) ⟨hI, Fr.rf⟩
        · rintro uj11 ⟨hIj11, hFj11⟩
          show PW _ _ _ _ _ _ (57, [(0, .ref 0), (1, .int (nI a1N)), (2, .int v3), (3, .int v3), (4, .int 3)], [], uj11)
          refine P_iload d_CM_dent_57 rfl ?_
          refine P_iconst (v := 3) d_CM_dent_59 (by decide) ?_
          refine P_icmp_ge 80 d_CM_dent_60 (by decide) (fun _ => ?_) (fun h => absurd (by decide) h)
          refine P_iconst (v := 3) d_CM_dent_80 (by decide) ?_
          exact P_iret d_CM_dent_81 rfl (le_b rfl) (le_b rfl) ⟨⟨_, rfl⟩, hIj11, hFj11⟩
        · rintro j11 uj11 hj11 ⟨hIj11, hFj11⟩ kkj11
          show PW _ _ _ _ _ _ (57, [(0, .ref 0), (1, .int (nI a1N)), (2, .int v3), (3, .int v3), (4, .int (nI j11))], [], uj11)
          refine P_iload d_CM_dent_57 rfl ?_
          refine P_iconst (v := 3) d_CM_dent_59 (by decide) ?_
          refine P_icmp_ge 80 d_CM_dent_60 (by decide) (fun h => absurd h (nI_geF (a := j11) (b := 3) (by omega) (by omega))) (fun _ => ?_)
          refine P_iload_n d_CM_dent_63 rfl ?_
          refine P_iconst (v := 1) d_CM_dent_64 (by decide) ?_
          refine P_iload d_CM_dent_65 rfl ?_
          refine P_ishl d_CM_dent_67 ?_
          generalize (1 : Int32) <<< ((nI j11) &&& 31) = zz12
          show PW _ _ _ _ _ _ (68, [(0, .ref 0), (1, .int (nI a1N)), (2, .int v3), (3, .int v3), (4, .int (nI j11))], [.int zz12, .int v3], uj11)
          refine P_icmp_ne 74 d_CM_dent_68 (by decide) (fun c13 => ?_) (fun c13 => ?_)
          · refine P_iinc (v := nI (j11 + 1)) d_CM_dent_74 (by decide) rfl (nI_add j11 1) rfl ?_
            refine P_goto 57 d_CM_dent_77 (by decide) ?_
            exact kkj11 (uj11) ⟨hIj11, hFj11⟩
          · refine P_iload d_CM_dent_71 rfl ?_
            exact P_iret d_CM_dent_73 rfl (le_b rfl) (le_b rfl) ⟨⟨_, rfl⟩, hIj11, hFj11⟩
    · refine P_bipush (v := (-2)) d_CM_dent_34 (by decide) ?_
      exact P_iret d_CM_dent_36 rfl (le_b rfl) (le_b rfl) ⟨⟨_, rfl⟩, hI, Fr.rf⟩
  · refine P_iconst (v := (-1)) d_CM_dent_11 (by decide) ?_
    exact P_iret d_CM_dent_12 rfl (le_b rfl) (le_b rfl) ⟨⟨_, rfl⟩, hI, Fr.rf⟩
theorem s_CM_area {G : pG} {w : pW} (hG : GO G) (hI : I w) (a1 : Int32) : PM G M_CM_area 1 0 0 [.ref 0, .int a1] w (fun r w' => (∃ v, r = some (.int v)) ∧ I w' ∧ Fr SC w w') := by
  refine PM_of pn_CM_area (le_b rfl) ?_
  show PW _ _ _ _ _ _ (0, [(0, .ref 0), (1, .int a1)], [], w)
  obtain ⟨b, hb, e0⟩ := hI.cm
  obtain ⟨hb1, hb2⟩ := pl_rng hb
  obtain ⟨lc, qc, mc, pc, eb, hlc, hqc, hmc, hpc⟩ := hI.pl hb
  refine P_aload_n d_CM_area_0 rfl ?_
  refine P_getf (i := 0) d_CM_area_1 ok_CM (by decide) L_CM_12 e0 rfl ?_
  refine P_iload_n d_CM_area_4 rfl ?_
  refine P_callV (M := M_CM_area) (pc := 5) (as := [.int a1]) (b := b) d_CM_area_5 co_Plane_hasQuad ok_Plane eb L_CM_127 im_Plane_hasQuad se_Plane_hasQuad (s_Plane_hasQuad eb hlc hqc hmc hpc a1) rfl ⟨by decide, by decide⟩ ⟨by decide, by decide⟩ (by exact le_b rfl) ?_ _ rfl
  rintro _ u ⟨rfl, eu⟩
  subst u
  show PW _ _ _ _ _ _ (8, [(0, .ref 0), (1, .int a1)], [.int (bi (inN qc a1))], w)
  refine P_if_eq 27 d_CM_area_8 (by decide) (fun c2 => ?_) (fun c2 => ?_)
  · refine P_ldc (v := (-100000)) d_CM_area_27 L_CM_183 ?_
    exact P_iret d_CM_area_29 rfl (le_b rfl) (le_b rfl) ⟨⟨_, rfl⟩, hI, Fr.rf⟩
  · obtain ⟨a1N, ha1N, rfl⟩ := inN_of (bi_1 c2) (by omega)
    refine P_aload_n d_CM_area_11 rfl ?_
    refine P_getf (i := 0) d_CM_area_12 ok_CM (by decide) L_CM_12 e0 rfl ?_
    refine P_getfN (i := 0) d_CM_area_15 ok_Plane (by decide) L_CM_142 eb rfl ?_
    refine P_iload_n d_CM_area_18 rfl ?_
    refine P_aald (j := a1N) (q := b + 1 + 27 + 6 * a1N) d_CM_area_19 (hI.qs hb) rfl (ix_nI (by omega)) (by omega) (pq_at (by omega)) ?_
    refine P_callV (M := M_CM_area) (pc := 20) (as := []) (b := b + 1 + 27 + 6 * a1N) d_CM_area_20 co_Quad_doubledArea ok_Quad (hI.quad hb (by omega)) L_CM_179 im_Quad_doubledArea se_Quad_doubledArea (s_Quad_doubledArea (hI.quadS hb (q := a1N) (by omega))) rfl ⟨by decide, by decide⟩ ⟨by decide, by decide⟩ (by exact le_b rfl) ?_ _ rfl
    rintro _ u ⟨⟨v3, rfl⟩, eu⟩
    subst u
    show PW _ _ _ _ _ _ (23, [(0, .ref 0), (1, .int (nI a1N))], [.long v3], w)
    refine P_l2i d_CM_area_23 ?_
    refine P_goto 29 d_CM_area_24 (by decide) ?_
    exact P_iret d_CM_area_29 rfl (le_b rfl) (le_b rfl) ⟨⟨_, rfl⟩, hI, Fr.rf⟩
theorem s_CM_image {G : pG} {w : pW} (hG : GO G) (hI : I w) (a1 : Int32) (a2 : Int32) (a3 : Int32) (a4 : Int32) (a5 : Int32) : PM G M_CM_image 4 0 0 [.ref 0, .int a1, .int a2, .int a3, .int a4, .int a5] w (fun r w' => (∃ v, r = some (.long v)) ∧ I w' ∧ Fr SC w w') := by
  refine PM_of pn_CM_image (le_b rfl) ?_
  show PW _ _ _ _ _ _ (0, [(0, .ref 0), (1, .int a1), (2, .int a2), (3, .int a3), (4, .int a4), (5, .int a5)], [], w)
  obtain ⟨b, hb, e0⟩ := hI.cm
  obtain ⟨hb1, hb2⟩ := pl_rng hb
  obtain ⟨lc, qc, mc, pc, eb, hlc, hqc, hmc, hpc⟩ := hI.pl hb
  refine P_aload_n d_CM_image_0 rfl ?_
  refine P_getf (i := 0) d_CM_image_1 ok_CM (by decide) L_CM_12 e0 rfl ?_
  refine P_iload_n d_CM_image_4 rfl ?_
  refine P_callV (M := M_CM_image) (pc := 5) (as := [.int a1]) (b := b) d_CM_image_5 co_Plane_hasMap ok_Plane eb L_CM_151 im_Plane_hasMap se_Plane_hasMap (s_Plane_hasMap eb hlc hqc hmc hpc a1) rfl ⟨by decide, by decide⟩ ⟨by decide, by decide⟩ (by exact le_b rfl) ?_ _ rfl
  rintro _ u ⟨rfl, eu⟩
  subst u
  show PW _ _ _ _ _ _ (8, [(0, .ref 0), (1, .int a1), (2, .int a2), (3, .int a3), (4, .int a4), (5, .int a5)], [.int (bi (inN mc a1))], w)
  refine P_if_eq 29 d_CM_image_8 (by decide) (fun c2 => ?_) (fun c2 => ?_)
  · refine P_ldc2 (v := (-9223372036854775808)) d_CM_image_29 L_CM_270 ?_
    exact P_lret d_CM_image_32 rfl (le_b rfl) (le_b rfl) ⟨⟨_, rfl⟩, hI, Fr.rf⟩
  · obtain ⟨a1N, ha1N, rfl⟩ := inN_of (bi_1 c2) (by omega)
    refine P_iload_n d_CM_image_11 rfl ?_
    refine P_iload_n d_CM_image_12 rfl ?_
    refine P_iload d_CM_image_13 rfl ?_
    refine P_callS (M := M_CM_image) (pc := 15) (as := [.int a2, .int a3, .int a4]) d_CM_image_15 co_CM_isTriple L_CM_267 sm_CM_isTriple (s_CM_isTriple a2 a3 a4) rfl ⟨by decide, by decide⟩ ⟨by decide, by decide⟩ (by exact le_b rfl) ?_ _ rfl
    rintro _ u ⟨⟨v3, rfl⟩, eu⟩
    subst u
    show PW _ _ _ _ _ _ (18, [(0, .ref 0), (1, .int (nI a1N)), (2, .int a2), (3, .int a3), (4, .int a4), (5, .int a5)], [.int (bi v3)], w)
    refine P_if_eq 29 d_CM_image_18 (by decide) (fun c4 => ?_) (fun c4 => ?_)
    · refine P_ldc2 (v := (-9223372036854775808)) d_CM_image_29 L_CM_270 ?_
      exact P_lret d_CM_image_32 rfl (le_b rfl) (le_b rfl) ⟨⟨_, rfl⟩, hI, Fr.rf⟩
    · refine P_iload d_CM_image_21 rfl ?_
      refine P_callS (M := M_CM_image) (pc := 23) (as := [.int a5]) d_CM_image_23 co_CM_isThird L_CM_154 sm_CM_isThird (s_CM_isThird a5) rfl ⟨by decide, by decide⟩ ⟨by decide, by decide⟩ (by exact le_b rfl) ?_ _ rfl
      rintro _ u ⟨rfl, eu⟩
      subst u
      show PW _ _ _ _ _ _ (26, [(0, .ref 0), (1, .int (nI a1N)), (2, .int a2), (3, .int a3), (4, .int a4), (5, .int a5)], [.int (bi (inN 3 a5))], w)
      refine P_if_ne 33 d_CM_image_26 (by decide) (fun c6 => ?_) (fun c6 => ?_)
      · obtain ⟨a5N, ha5N, rfl⟩ := inN_of (bi_1 c6) (by omega)
        refine P_iload_n d_CM_image_33 rfl ?_
        refine P_i2l d_CM_image_34 ?_
        refine P_iload_n d_CM_image_35 rfl ?_
        refine P_i2l d_CM_image_36 ?_
        refine P_iload d_CM_image_37 rfl ?_
        refine P_i2l d_CM_image_39 ?_
        refine P_aload_n d_CM_image_40 rfl ?_
        refine P_getf (i := 11) d_CM_image_41 ok_CM (by decide) L_CM_75 e0 rfl ?_
        obtain ⟨f7, f7e⟩ := hI.row (r := 452) (by decide) kc_452
        refine P_callS (M := M_CM_image) (pc := 44) (as := [.long a2.toInt64, .long a3.toInt64, .long a4.toInt64, .ref 452]) d_CM_image_44 co_Rows_put L_CM_238 sm_Rows_put (v_Rows_put f7e (by decide) a2.toInt64 a3.toInt64 a4.toInt64) rfl ⟨by decide, by decide⟩ ⟨by decide, by decide⟩ (by exact le_b rfl) ?_ _ rfl
        rintro _ w8 ⟨rfl, e8⟩
        have s8 := w_s e8
        generalize p3 _ _ _ _ = g9 at e8 s8
        have hI8 : I w8 := hI.setL e8 kc_452
        have hF8 : Fr SC w w8 := Fr.set Fr.rf e8 (SC_t (by omega))
        show PW _ _ _ _ _ _ (47, [(0, .ref 0), (1, .int (nI a1N)), (2, .int a2), (3, .int a3), (4, .int a4), (5, .int (nI a5N))], [], w8)
        refine P_aload_n d_CM_image_47 rfl ?_
        refine P_getf (i := 0) d_CM_image_48 ok_CM (by decide) L_CM_12 ((hF8.2 _ (SC_f (by omega))).trans e0) rfl ?_
        refine P_getfN (i := 1) d_CM_image_51 ok_Plane (by decide) L_CM_157 ((hF8.2 _ (SC_f (by omega))).trans eb) rfl ?_
        refine P_iload_n d_CM_image_54 rfl ?_
        refine P_aald (j := a1N) (q := b + 2 + 1 + a1N) d_CM_image_55 (hI8.ms hb) rfl (ix_nI (by omega)) (by omega) (rows_at (by omega)) ?_
        refine P_aload_n d_CM_image_56 rfl ?_
        refine P_getf (i := 11) d_CM_image_57 ok_CM (by decide) L_CM_75 ((hF8.2 _ (SC_f (by omega))).trans e0) rfl ?_
        refine P_aload_n d_CM_image_60 rfl ?_
        refine P_getf (i := 12) d_CM_image_61 ok_CM (by decide) L_CM_78 ((hF8.2 _ (SC_f (by omega))).trans e0) rfl ?_
        obtain ⟨f10, f10e⟩ := hI8.row (r := b + 2 + 1 + a1N) (by omega) (Kc_m hb (by omega))
        obtain ⟨f11, f11e⟩ := hI8.row (r := 453) (by decide) kc_453
        refine P_callS (M := M_CM_image) (pc := 64) (as := [.ref (b + 2 + 1 + a1N), .ref 452, .ref 453]) d_CM_image_64 co_Maps_apply L_CM_248 sm_Maps_apply (s_Maps_apply f10e s8 f11e (by decide) (by omega) (by decide)) rfl ⟨by decide, by decide⟩ ⟨by decide, by decide⟩ (by exact le_b rfl) ?_ _ rfl
        rintro _ w12 ⟨rfl, g12, e12⟩
        have s12 := w_s e12
        have hI12 : I w12 := hI8.setL e12 kc_453
        have hF12 : Fr SC w w12 := Fr.set hF8 e12 (SC_t (by omega))
        show PW _ _ _ _ _ _ (67, [(0, .ref 0), (1, .int (nI a1N)), (2, .int a2), (3, .int a3), (4, .int a4), (5, .int (nI a5N))], [], w12)
        refine P_aload_n d_CM_image_67 rfl ?_
        refine P_getf (i := 12) d_CM_image_68 ok_CM (by decide) L_CM_78 ((hF12.2 _ (SC_f (by omega))).trans e0) rfl ?_
        refine P_iload d_CM_image_71 rfl ?_
        refine P_lald (j := a5N) d_CM_image_73 s12 (ix_nI (by omega)) (by omega) ?_
        exact P_lret d_CM_image_74 rfl (le_b rfl) (le_b rfl) ⟨⟨_, rfl⟩, hI12, hF12⟩
      · refine P_ldc2 (v := (-9223372036854775808)) d_CM_image_29 L_CM_270 ?_
        exact P_lret d_CM_image_32 rfl (le_b rfl) (le_b rfl) ⟨⟨_, rfl⟩, hI, Fr.rf⟩
theorem s_CM_before {G : pG} {w : pW} (hG : GO G) (hI : I w) (a1 : Int32) (a2 : Int32) (a3 : Int32) (a4 : Int32) (a5 : Int32) : PM G M_CM_before 4 0 0 [.ref 0, .int a1, .int a2, .int a3, .int a4, .int a5] w (fun r w' => (∃ v, r = some (.long v)) ∧ I w' ∧ Fr SC w w') := by
  refine PM_of pn_CM_before (le_b rfl) ?_
  show PW _ _ _ _ _ _ (0, [(0, .ref 0), (1, .int a1), (2, .int a2), (3, .int a3), (4, .int a4), (5, .int a5)], [], w)
  obtain ⟨b, hb, e0⟩ := hI.cm
  obtain ⟨hb1, hb2⟩ := pl_rng hb
  obtain ⟨lc, qc, mc, pc, eb, hlc, hqc, hmc, hpc⟩ := hI.pl hb
  refine P_aload_n d_CM_before_0 rfl ?_
  refine P_getf (i := 0) d_CM_before_1 ok_CM (by decide) L_CM_12 e0 rfl ?_
  refine P_iload_n d_CM_before_4 rfl ?_
  refine P_callV (M := M_CM_before) (pc := 5) (as := [.int a1]) (b := b) d_CM_before_5 co_Plane_hasMap ok_Plane eb L_CM_151 im_Plane_hasMap se_Plane_hasMap (s_Plane_hasMap eb hlc hqc hmc hpc a1) rfl ⟨by decide, by decide⟩ ⟨by decide, by decide⟩ (by exact le_b rfl) ?_ _ rfl
  rintro _ u ⟨rfl, eu⟩
  subst u
  show PW _ _ _ _ _ _ (8, [(0, .ref 0), (1, .int a1), (2, .int a2), (3, .int a3), (4, .int a4), (5, .int a5)], [.int (bi (inN mc a1))], w)
  refine P_if_eq 29 d_CM_before_8 (by decide) (fun c2 => ?_) (fun c2 => ?_)
  · refine P_ldc2 (v := (-9223372036854775808)) d_CM_before_29 L_CM_270 ?_
    exact P_lret d_CM_before_32 rfl (le_b rfl) (le_b rfl) ⟨⟨_, rfl⟩, hI, Fr.rf⟩
  · obtain ⟨a1N, ha1N, rfl⟩ := inN_of (bi_1 c2) (by omega)
    refine P_iload_n d_CM_before_11 rfl ?_
    refine P_iload_n d_CM_before_12 rfl ?_
    refine P_iload d_CM_before_13 rfl ?_
    refine P_callS (M := M_CM_before) (pc := 15) (as := [.int a2, .int a3, .int a4]) d_CM_before_15 co_CM_isTriple L_CM_267 sm_CM_isTriple (s_CM_isTriple a2 a3 a4) rfl ⟨by decide, by decide⟩ ⟨by decide, by decide⟩ (by exact le_b rfl) ?_ _ rfl
    rintro _ u ⟨⟨v3, rfl⟩, eu⟩
    subst u
    show PW _ _ _ _ _ _ (18, [(0, .ref 0), (1, .int (nI a1N)), (2, .int a2), (3, .int a3), (4, .int a4), (5, .int a5)], [.int (bi v3)], w)
    refine P_if_eq 29 d_CM_before_18 (by decide) (fun c4 => ?_) (fun c4 => ?_)
    · refine P_ldc2 (v := (-9223372036854775808)) d_CM_before_29 L_CM_270 ?_
      exact P_lret d_CM_before_32 rfl (le_b rfl) (le_b rfl) ⟨⟨_, rfl⟩, hI, Fr.rf⟩
    · refine P_iload d_CM_before_21 rfl ?_
      refine P_callS (M := M_CM_before) (pc := 23) (as := [.int a5]) d_CM_before_23 co_CM_isThird L_CM_154 sm_CM_isThird (s_CM_isThird a5) rfl ⟨by decide, by decide⟩ ⟨by decide, by decide⟩ (by exact le_b rfl) ?_ _ rfl
      rintro _ u ⟨rfl, eu⟩
      subst u
      show PW _ _ _ _ _ _ (26, [(0, .ref 0), (1, .int (nI a1N)), (2, .int a2), (3, .int a3), (4, .int a4), (5, .int a5)], [.int (bi (inN 3 a5))], w)
      refine P_if_ne 33 d_CM_before_26 (by decide) (fun c6 => ?_) (fun c6 => ?_)
      · obtain ⟨a5N, ha5N, rfl⟩ := inN_of (bi_1 c6) (by omega)
        refine P_aload_n d_CM_before_33 rfl ?_
        refine P_getf (i := 0) d_CM_before_34 ok_CM (by decide) L_CM_12 e0 rfl ?_
        refine P_getfN (i := 1) d_CM_before_37 ok_Plane (by decide) L_CM_157 eb rfl ?_
        refine P_iload_n d_CM_before_40 rfl ?_
        refine P_aald (j := a1N) (q := b + 2 + 1 + a1N) d_CM_before_41 (hI.ms hb) rfl (ix_nI (by omega)) (by omega) (rows_at (by omega)) ?_
        refine P_aload_n d_CM_before_42 rfl ?_
        refine P_getf (i := 8) d_CM_before_43 ok_CM (by decide) L_CM_65 e0 rfl ?_
        obtain ⟨f7, f7e⟩ := hI.row (r := b + 2 + 1 + a1N) (by omega) (Kc_m hb (by omega))
        obtain ⟨f8, f8e⟩ := hI.row (r := 449) (by decide) kc_449
        refine P_callS (M := M_CM_before) (pc := 46) (as := [.ref (b + 2 + 1 + a1N), .ref 449]) d_CM_before_46 co_Maps_invert L_CM_202 sm_Maps_invert (s_Maps_invert f7e f8e (by decide) (by omega)) rfl ⟨by decide, by decide⟩ ⟨by decide, by decide⟩ (by exact le_b rfl) ?_ _ rfl
        rintro _ w9 ⟨rfl, g9, e9⟩
        have s9 := w_s e9
        have hI9 : I w9 := hI.setL e9 kc_449
        have hF9 : Fr SC w w9 := Fr.set Fr.rf e9 (SC_t (by omega))
        show PW _ _ _ _ _ _ (49, [(0, .ref 0), (1, .int (nI a1N)), (2, .int a2), (3, .int a3), (4, .int a4), (5, .int (nI a5N))], [], w9)
        refine P_aload_n d_CM_before_49 rfl ?_
        refine P_getf (i := 8) d_CM_before_50 ok_CM (by decide) L_CM_65 ((hF9.2 _ (SC_f (by omega))).trans e0) rfl ?_
        refine P_callS (M := M_CM_before) (pc := 53) (as := [.ref 449]) d_CM_before_53 co_Maps_isLarge L_CM_272 sm_Maps_isLarge (s_Maps_isLarge s9) rfl ⟨by decide, by decide⟩ ⟨by decide, by decide⟩ (by exact le_b rfl) ?_ _ rfl
        rintro _ u ⟨⟨v10, rfl⟩, eu⟩
        subst u
        show PW _ _ _ _ _ _ (56, [(0, .ref 0), (1, .int (nI a1N)), (2, .int a2), (3, .int a3), (4, .int a4), (5, .int (nI a5N))], [.int (bi v10)], w9)
        refine P_if_eq 63 d_CM_before_56 (by decide) (fun c11 => ?_) (fun c11 => ?_)
        · refine P_iload_n d_CM_before_63 rfl ?_
          refine P_i2l d_CM_before_64 ?_
          refine P_iload_n d_CM_before_65 rfl ?_
          refine P_i2l d_CM_before_66 ?_
          refine P_iload d_CM_before_67 rfl ?_
          refine P_i2l d_CM_before_69 ?_
          refine P_aload_n d_CM_before_70 rfl ?_
          refine P_getf (i := 11) d_CM_before_71 ok_CM (by decide) L_CM_75 ((hF9.2 _ (SC_f (by omega))).trans e0) rfl ?_
          obtain ⟨f12, f12e⟩ := hI9.row (r := 452) (by decide) kc_452
          refine P_callS (M := M_CM_before) (pc := 74) (as := [.long a2.toInt64, .long a3.toInt64, .long a4.toInt64, .ref 452]) d_CM_before_74 co_Rows_put L_CM_238 sm_Rows_put (v_Rows_put f12e (by decide) a2.toInt64 a3.toInt64 a4.toInt64) rfl ⟨by decide, by decide⟩ ⟨by decide, by decide⟩ (by exact le_b rfl) ?_ _ rfl
          rintro _ w13 ⟨rfl, e13⟩
          have s13 := w_s e13
          generalize p3 _ _ _ _ = g14 at e13 s13
          have hI13 : I w13 := hI9.setL e13 kc_452
          have hF13 : Fr SC w w13 := Fr.set hF9 e13 (SC_t (by omega))
          show PW _ _ _ _ _ _ (77, [(0, .ref 0), (1, .int (nI a1N)), (2, .int a2), (3, .int a3), (4, .int a4), (5, .int (nI a5N))], [], w13)
          refine P_aload_n d_CM_before_77 rfl ?_
          refine P_getf (i := 8) d_CM_before_78 ok_CM (by decide) L_CM_65 ((hF13.2 _ (SC_f (by omega))).trans e0) rfl ?_
          refine P_aload_n d_CM_before_81 rfl ?_
          refine P_getf (i := 11) d_CM_before_82 ok_CM (by decide) L_CM_75 ((hF13.2 _ (SC_f (by omega))).trans e0) rfl ?_
          refine P_aload_n d_CM_before_85 rfl ?_
          refine P_getf (i := 12) d_CM_before_86 ok_CM (by decide) L_CM_78 ((hF13.2 _ (SC_f (by omega))).trans e0) rfl ?_
          obtain ⟨f15, f15e⟩ := hI13.row (r := 449) (by decide) kc_449
          obtain ⟨f16, f16e⟩ := hI13.row (r := 453) (by decide) kc_453
          refine P_callS (M := M_CM_before) (pc := 89) (as := [.ref 449, .ref 452, .ref 453]) d_CM_before_89 co_Maps_apply L_CM_248 sm_Maps_apply (s_Maps_apply f15e s13 f16e (by decide) (by decide) (by decide)) rfl ⟨by decide, by decide⟩ ⟨by decide, by decide⟩ (by exact le_b rfl) ?_ _ rfl
          rintro _ w17 ⟨rfl, g17, e17⟩
          have s17 := w_s e17
          have hI17 : I w17 := hI13.setL e17 kc_453
          have hF17 : Fr SC w w17 := Fr.set hF13 e17 (SC_t (by omega))
          show PW _ _ _ _ _ _ (92, [(0, .ref 0), (1, .int (nI a1N)), (2, .int a2), (3, .int a3), (4, .int a4), (5, .int (nI a5N))], [], w17)
          refine P_aload_n d_CM_before_92 rfl ?_
          refine P_getf (i := 12) d_CM_before_93 ok_CM (by decide) L_CM_78 ((hF17.2 _ (SC_f (by omega))).trans e0) rfl ?_
          refine P_iload d_CM_before_96 rfl ?_
          refine P_lald (j := a5N) d_CM_before_98 s17 (ix_nI (by omega)) (by omega) ?_
          exact P_lret d_CM_before_99 rfl (le_b rfl) (le_b rfl) ⟨⟨_, rfl⟩, hI17, hF17⟩
        · refine P_ldc2 (v := (-100000000000)) d_CM_before_59 L_CM_275 ?_
          exact P_lret d_CM_before_62 rfl (le_b rfl) (le_b rfl) ⟨⟨_, rfl⟩, hI9, hF9⟩
      · refine P_ldc2 (v := (-9223372036854775808)) d_CM_before_29 L_CM_270 ?_
        exact P_lret d_CM_before_32 rfl (le_b rfl) (le_b rfl) ⟨⟨_, rfl⟩, hI, Fr.rf⟩
theorem s_CM_line {G : pG} {w : pW} (hG : GO G) (hI : I w) (a1 : Int32) (a2 : Int32) (a3 : Int32) (a4 : Int32) (a5 : Int32) : PM G M_CM_line 4 0 0 [.ref 0, .int a1, .int a2, .int a3, .int a4, .int a5] w (fun r w' => (∃ v, r = some (.long v)) ∧ I w' ∧ Fr SC w w') := by
  refine PM_of pn_CM_line (le_b rfl) ?_
  show PW _ _ _ _ _ _ (0, [(0, .ref 0), (1, .int a1), (2, .int a2), (3, .int a3), (4, .int a4), (5, .int a5)], [], w)
  obtain ⟨b, hb, e0⟩ := hI.cm
  obtain ⟨hb1, hb2⟩ := pl_rng hb
  obtain ⟨lc, qc, mc, pc, eb, hlc, hqc, hmc, hpc⟩ := hI.pl hb
  refine P_aload_n d_CM_line_0 rfl ?_
  refine P_getf (i := 0) d_CM_line_1 ok_CM (by decide) L_CM_12 e0 rfl ?_
  refine P_iload_n d_CM_line_4 rfl ?_
  refine P_callV (M := M_CM_line) (pc := 5) (as := [.int a1]) (b := b) d_CM_line_5 co_Plane_hasMap ok_Plane eb L_CM_151 im_Plane_hasMap se_Plane_hasMap (s_Plane_hasMap eb hlc hqc hmc hpc a1) rfl ⟨by decide, by decide⟩ ⟨by decide, by decide⟩ (by exact le_b rfl) ?_ _ rfl
  rintro _ u ⟨rfl, eu⟩
  subst u
  show PW _ _ _ _ _ _ (8, [(0, .ref 0), (1, .int a1), (2, .int a2), (3, .int a3), (4, .int a4), (5, .int a5)], [.int (bi (inN mc a1))], w)
  refine P_if_eq 29 d_CM_line_8 (by decide) (fun c2 => ?_) (fun c2 => ?_)
  · refine P_ldc2 (v := (-9223372036854775808)) d_CM_line_29 L_CM_270 ?_
    exact P_lret d_CM_line_32 rfl (le_b rfl) (le_b rfl) ⟨⟨_, rfl⟩, hI, Fr.rf⟩
  · obtain ⟨a1N, ha1N, rfl⟩ := inN_of (bi_1 c2) (by omega)
    refine P_iload_n d_CM_line_11 rfl ?_
    refine P_iload_n d_CM_line_12 rfl ?_
    refine P_iload d_CM_line_13 rfl ?_
    refine P_callS (M := M_CM_line) (pc := 15) (as := [.int a2, .int a3, .int a4]) d_CM_line_15 co_CM_isTriple L_CM_267 sm_CM_isTriple (s_CM_isTriple a2 a3 a4) rfl ⟨by decide, by decide⟩ ⟨by decide, by decide⟩ (by exact le_b rfl) ?_ _ rfl
    rintro _ u ⟨⟨v3, rfl⟩, eu⟩
    subst u
    show PW _ _ _ _ _ _ (18, [(0, .ref 0), (1, .int (nI a1N)), (2, .int a2), (3, .int a3), (4, .int a4), (5, .int a5)], [.int (bi v3)], w)
    refine P_if_eq 29 d_CM_line_18 (by decide) (fun c4 => ?_) (fun c4 => ?_)
    · refine P_ldc2 (v := (-9223372036854775808)) d_CM_line_29 L_CM_270 ?_
      exact P_lret d_CM_line_32 rfl (le_b rfl) (le_b rfl) ⟨⟨_, rfl⟩, hI, Fr.rf⟩
    · refine P_iload d_CM_line_21 rfl ?_
      refine P_callS (M := M_CM_line) (pc := 23) (as := [.int a5]) d_CM_line_23 co_CM_isThird L_CM_154 sm_CM_isThird (s_CM_isThird a5) rfl ⟨by decide, by decide⟩ ⟨by decide, by decide⟩ (by exact le_b rfl) ?_ _ rfl
      rintro _ u ⟨rfl, eu⟩
      subst u
      show PW _ _ _ _ _ _ (26, [(0, .ref 0), (1, .int (nI a1N)), (2, .int a2), (3, .int a3), (4, .int a4), (5, .int a5)], [.int (bi (inN 3 a5))], w)
      refine P_if_ne 33 d_CM_line_26 (by decide) (fun c6 => ?_) (fun c6 => ?_)
      · obtain ⟨a5N, ha5N, rfl⟩ := inN_of (bi_1 c6) (by omega)
        refine P_aload_n d_CM_line_33 rfl ?_
        refine P_getf (i := 0) d_CM_line_34 ok_CM (by decide) L_CM_12 e0 rfl ?_
        refine P_getfN (i := 1) d_CM_line_37 ok_Plane (by decide) L_CM_157 eb rfl ?_
        refine P_iload_n d_CM_line_40 rfl ?_
        refine P_aald (j := a1N) (q := b + 2 + 1 + a1N) d_CM_line_41 (hI.ms hb) rfl (ix_nI (by omega)) (by omega) (rows_at (by omega)) ?_
        refine P_aload_n d_CM_line_42 rfl ?_
        refine P_getf (i := 8) d_CM_line_43 ok_CM (by decide) L_CM_65 e0 rfl ?_
        obtain ⟨f7, f7e⟩ := hI.row (r := b + 2 + 1 + a1N) (by omega) (Kc_m hb (by omega))
        obtain ⟨f8, f8e⟩ := hI.row (r := 449) (by decide) kc_449
        refine P_callS (M := M_CM_line) (pc := 46) (as := [.ref (b + 2 + 1 + a1N), .ref 449]) d_CM_line_46 co_Maps_invert L_CM_202 sm_Maps_invert (s_Maps_invert f7e f8e (by decide) (by omega)) rfl ⟨by decide, by decide⟩ ⟨by decide, by decide⟩ (by exact le_b rfl) ?_ _ rfl
        rintro _ w9 ⟨rfl, g9, e9⟩
        have s9 := w_s e9
        have hI9 : I w9 := hI.setL e9 kc_449
        have hF9 : Fr SC w w9 := Fr.set Fr.rf e9 (SC_t (by omega))
        show PW _ _ _ _ _ _ (49, [(0, .ref 0), (1, .int (nI a1N)), (2, .int a2), (3, .int a3), (4, .int a4), (5, .int (nI a5N))], [], w9)
        refine P_aload_n d_CM_line_49 rfl ?_
        refine P_getf (i := 8) d_CM_line_50 ok_CM (by decide) L_CM_65 ((hF9.2 _ (SC_f (by omega))).trans e0) rfl ?_
        refine P_callS (M := M_CM_line) (pc := 53) (as := [.ref 449]) d_CM_line_53 co_Maps_isLarge L_CM_272 sm_Maps_isLarge (s_Maps_isLarge s9) rfl ⟨by decide, by decide⟩ ⟨by decide, by decide⟩ (by exact le_b rfl) ?_ _ rfl
        rintro _ u ⟨⟨v10, rfl⟩, eu⟩
        subst u
        show PW _ _ _ _ _ _ (56, [(0, .ref 0), (1, .int (nI a1N)), (2, .int a2), (3, .int a3), (4, .int a4), (5, .int (nI a5N))], [.int (bi v10)], w9)
        refine P_if_eq 63 d_CM_line_56 (by decide) (fun c11 => ?_) (fun c11 => ?_)
        · refine P_iload_n d_CM_line_63 rfl ?_
          refine P_i2l d_CM_line_64 ?_
          refine P_iload_n d_CM_line_65 rfl ?_
          refine P_i2l d_CM_line_66 ?_
          refine P_iload d_CM_line_67 rfl ?_
          refine P_i2l d_CM_line_69 ?_
          refine P_aload_n d_CM_line_70 rfl ?_
          refine P_getf (i := 11) d_CM_line_71 ok_CM (by decide) L_CM_75 ((hF9.2 _ (SC_f (by omega))).trans e0) rfl ?_
          obtain ⟨f12, f12e⟩ := hI9.row (r := 452) (by decide) kc_452
          refine P_callS (M := M_CM_line) (pc := 74) (as := [.long a2.toInt64, .long a3.toInt64, .long a4.toInt64, .ref 452]) d_CM_line_74 co_Rows_put L_CM_238 sm_Rows_put (v_Rows_put f12e (by decide) a2.toInt64 a3.toInt64 a4.toInt64) rfl ⟨by decide, by decide⟩ ⟨by decide, by decide⟩ (by exact le_b rfl) ?_ _ rfl
          rintro _ w13 ⟨rfl, e13⟩
          have s13 := w_s e13
          generalize p3 _ _ _ _ = g14 at e13 s13
          have hI13 : I w13 := hI9.setL e13 kc_452
          have hF13 : Fr SC w w13 := Fr.set hF9 e13 (SC_t (by omega))
          show PW _ _ _ _ _ _ (77, [(0, .ref 0), (1, .int (nI a1N)), (2, .int a2), (3, .int a3), (4, .int a4), (5, .int (nI a5N))], [], w13)
          refine P_aload_n d_CM_line_77 rfl ?_
          refine P_getf (i := 8) d_CM_line_78 ok_CM (by decide) L_CM_65 ((hF13.2 _ (SC_f (by omega))).trans e0) rfl ?_
          refine P_aload_n d_CM_line_81 rfl ?_
          refine P_getf (i := 11) d_CM_line_82 ok_CM (by decide) L_CM_75 ((hF13.2 _ (SC_f (by omega))).trans e0) rfl ?_
          refine P_aload_n d_CM_line_85 rfl ?_
          refine P_getf (i := 12) d_CM_line_86 ok_CM (by decide) L_CM_78 ((hF13.2 _ (SC_f (by omega))).trans e0) rfl ?_
          obtain ⟨f15, f15e⟩ := hI13.row (r := 449) (by decide) kc_449
          obtain ⟨f16, f16e⟩ := hI13.row (r := 453) (by decide) kc_453
          refine P_callS (M := M_CM_line) (pc := 89) (as := [.ref 449, .ref 452, .ref 453]) d_CM_line_89 co_Maps_pullBack L_CM_277 sm_Maps_pullBack (s_Maps_pullBack f15e s13 f16e (by decide) (by decide) (by decide)) rfl ⟨by decide, by decide⟩ ⟨by decide, by decide⟩ (by exact le_b rfl) ?_ _ rfl
          rintro _ w17 ⟨rfl, g17, e17⟩
          have s17 := w_s e17
          have hI17 : I w17 := hI13.setL e17 kc_453
          have hF17 : Fr SC w w17 := Fr.set hF13 e17 (SC_t (by omega))
          show PW _ _ _ _ _ _ (92, [(0, .ref 0), (1, .int (nI a1N)), (2, .int a2), (3, .int a3), (4, .int a4), (5, .int (nI a5N))], [], w17)
          refine P_aload_n d_CM_line_92 rfl ?_
          refine P_getf (i := 12) d_CM_line_93 ok_CM (by decide) L_CM_78 ((hF17.2 _ (SC_f (by omega))).trans e0) rfl ?_
          refine P_iload d_CM_line_96 rfl ?_
          refine P_lald (j := a5N) d_CM_line_98 s17 (ix_nI (by omega)) (by omega) ?_
          exact P_lret d_CM_line_99 rfl (le_b rfl) (le_b rfl) ⟨⟨_, rfl⟩, hI17, hF17⟩
        · refine P_ldc2 (v := (-100000000000)) d_CM_line_59 L_CM_275 ?_
          exact P_lret d_CM_line_62 rfl (le_b rfl) (le_b rfl) ⟨⟨_, rfl⟩, hI9, hF9⟩
      · refine P_ldc2 (v := (-9223372036854775808)) d_CM_line_29 L_CM_270 ?_
        exact P_lret d_CM_line_32 rfl (le_b rfl) (le_b rfl) ⟨⟨_, rfl⟩, hI, Fr.rf⟩
theorem s_CM_horizon {G : pG} {w : pW} (hG : GO G) (hI : I w) (a1 : Int32) (a2 : Int32) : PM G M_CM_horizon 4 0 0 [.ref 0, .int a1, .int a2] w (fun r w' => (∃ v, r = some (.long v)) ∧ I w' ∧ Fr SC w w') := by
  refine PM_of pn_CM_horizon (le_b rfl) ?_
  show PW _ _ _ _ _ _ (0, [(0, .ref 0), (1, .int a1), (2, .int a2)], [], w)
  obtain ⟨b, hb, e0⟩ := hI.cm
  obtain ⟨hb1, hb2⟩ := pl_rng hb
  obtain ⟨lc, qc, mc, pc, eb, hlc, hqc, hmc, hpc⟩ := hI.pl hb
  refine P_aload_n d_CM_horizon_0 rfl ?_
  refine P_getf (i := 0) d_CM_horizon_1 ok_CM (by decide) L_CM_12 e0 rfl ?_
  refine P_iload_n d_CM_horizon_4 rfl ?_
  refine P_callV (M := M_CM_horizon) (pc := 5) (as := [.int a1]) (b := b) d_CM_horizon_5 co_Plane_hasMap ok_Plane eb L_CM_151 im_Plane_hasMap se_Plane_hasMap (s_Plane_hasMap eb hlc hqc hmc hpc a1) rfl ⟨by decide, by decide⟩ ⟨by decide, by decide⟩ (by exact le_b rfl) ?_ _ rfl
  rintro _ u ⟨rfl, eu⟩
  subst u
  show PW _ _ _ _ _ _ (8, [(0, .ref 0), (1, .int a1), (2, .int a2)], [.int (bi (inN mc a1))], w)
  refine P_if_eq 18 d_CM_horizon_8 (by decide) (fun c2 => ?_) (fun c2 => ?_)
  · refine P_ldc2 (v := (-9223372036854775808)) d_CM_horizon_18 L_CM_270 ?_
    exact P_lret d_CM_horizon_21 rfl (le_b rfl) (le_b rfl) ⟨⟨_, rfl⟩, hI, Fr.rf⟩
  · obtain ⟨a1N, ha1N, rfl⟩ := inN_of (bi_1 c2) (by omega)
    refine P_iload_n d_CM_horizon_11 rfl ?_
    refine P_callS (M := M_CM_horizon) (pc := 12) (as := [.int a2]) d_CM_horizon_12 co_CM_isThird L_CM_154 sm_CM_isThird (s_CM_isThird a2) rfl ⟨by decide, by decide⟩ ⟨by decide, by decide⟩ (by exact le_b rfl) ?_ _ rfl
    rintro _ u ⟨rfl, eu⟩
    subst u
    show PW _ _ _ _ _ _ (15, [(0, .ref 0), (1, .int (nI a1N)), (2, .int a2)], [.int (bi (inN 3 a2))], w)
    refine P_if_ne 22 d_CM_horizon_15 (by decide) (fun c4 => ?_) (fun c4 => ?_)
    · obtain ⟨a2N, ha2N, rfl⟩ := inN_of (bi_1 c4) (by omega)
      refine P_aload_n d_CM_horizon_22 rfl ?_
      refine P_getf (i := 0) d_CM_horizon_23 ok_CM (by decide) L_CM_12 e0 rfl ?_
      refine P_getfN (i := 1) d_CM_horizon_26 ok_Plane (by decide) L_CM_157 eb rfl ?_
      refine P_iload_n d_CM_horizon_29 rfl ?_
      refine P_aald (j := a1N) (q := b + 2 + 1 + a1N) d_CM_horizon_30 (hI.ms hb) rfl (ix_nI (by omega)) (by omega) (rows_at (by omega)) ?_
      refine P_gets ("CornerMaps", "FAR_LINE", "[J", 4) (by decide) d_CM_horizon_31 L_CM_280 ?_
      show PW _ _ _ _ _ _ (34, [(0, .ref 0), (1, .int (nI a1N)), (2, .int (nI a2N))], [.ref 1000004, .ref (b + 2 + 1 + a1N)], w)
      refine PW.ext (fun hx => ?_)
      have o5 : w.2 1000004 = .inl (1, 3, .inr (.inl farF)) := (hx 4).trans (GO_4 hG)
      refine P_aload_n d_CM_horizon_34 rfl ?_
      refine P_getf (i := 12) d_CM_horizon_35 ok_CM (by decide) L_CM_78 e0 rfl ?_
      obtain ⟨f6, f6e⟩ := hI.row (r := b + 2 + 1 + a1N) (by omega) (Kc_m hb (by omega))
      obtain ⟨f7, f7e⟩ := hI.row (r := 453) (by decide) kc_453
      refine P_callS (M := M_CM_horizon) (pc := 38) (as := [.ref (b + 2 + 1 + a1N), .ref 1000004, .ref 453]) d_CM_horizon_38 co_Maps_pullBack L_CM_277 sm_Maps_pullBack (s_Maps_pullBack f6e o5 f7e (by decide) (by omega) (by decide)) rfl ⟨by decide, by decide⟩ ⟨by decide, by decide⟩ (by exact le_b rfl) ?_ _ rfl
      rintro _ w8 ⟨rfl, g8, e8⟩
      have s8 := w_s e8
      have hI8 : I w8 := hI.setL e8 kc_453
      have hF8 : Fr SC w w8 := Fr.set Fr.rf e8 (SC_t (by omega))
      show PW _ _ _ _ _ _ (41, [(0, .ref 0), (1, .int (nI a1N)), (2, .int (nI a2N))], [], w8)
      refine P_aload_n d_CM_horizon_41 rfl ?_
      refine P_getf (i := 12) d_CM_horizon_42 ok_CM (by decide) L_CM_78 ((hF8.2 _ (SC_f (by omega))).trans e0) rfl ?_
      refine P_iload_n d_CM_horizon_45 rfl ?_
      refine P_lald (j := a2N) d_CM_horizon_46 s8 (ix_nI (by omega)) (by omega) ?_
      exact P_lret d_CM_horizon_47 rfl (le_b rfl) (le_b rfl) ⟨⟨_, rfl⟩, hI8, hF8⟩
    · refine P_ldc2 (v := (-9223372036854775808)) d_CM_horizon_18 L_CM_270 ?_
      exact P_lret d_CM_horizon_21 rfl (le_b rfl) (le_b rfl) ⟨⟨_, rfl⟩, hI, Fr.rf⟩
theorem s_CM_vanishing {G : pG} {w : pW} (hG : GO G) (hI : I w) (a1 : Int32) (a2 : Int32) : PM G M_CM_vanishing 4 0 0 [.ref 0, .int a1, .int a2] w (fun r w' => (∃ v, r = some (.long v)) ∧ I w' ∧ Fr SC w w') := by
  refine PM_of pn_CM_vanishing (le_b rfl) ?_
  show PW _ _ _ _ _ _ (0, [(0, .ref 0), (1, .int a1), (2, .int a2)], [], w)
  obtain ⟨b, hb, e0⟩ := hI.cm
  obtain ⟨hb1, hb2⟩ := pl_rng hb
  obtain ⟨lc, qc, mc, pc, eb, hlc, hqc, hmc, hpc⟩ := hI.pl hb
  refine P_aload_n d_CM_vanishing_0 rfl ?_
  refine P_getf (i := 0) d_CM_vanishing_1 ok_CM (by decide) L_CM_12 e0 rfl ?_
  refine P_iload_n d_CM_vanishing_4 rfl ?_
  refine P_callV (M := M_CM_vanishing) (pc := 5) (as := [.int a1]) (b := b) d_CM_vanishing_5 co_Plane_hasMap ok_Plane eb L_CM_151 im_Plane_hasMap se_Plane_hasMap (s_Plane_hasMap eb hlc hqc hmc hpc a1) rfl ⟨by decide, by decide⟩ ⟨by decide, by decide⟩ (by exact le_b rfl) ?_ _ rfl
  rintro _ u ⟨rfl, eu⟩
  subst u
  show PW _ _ _ _ _ _ (8, [(0, .ref 0), (1, .int a1), (2, .int a2)], [.int (bi (inN mc a1))], w)
  refine P_if_eq 18 d_CM_vanishing_8 (by decide) (fun c2 => ?_) (fun c2 => ?_)
  · refine P_ldc2 (v := (-9223372036854775808)) d_CM_vanishing_18 L_CM_270 ?_
    exact P_lret d_CM_vanishing_21 rfl (le_b rfl) (le_b rfl) ⟨⟨_, rfl⟩, hI, Fr.rf⟩
  · obtain ⟨a1N, ha1N, rfl⟩ := inN_of (bi_1 c2) (by omega)
    refine P_iload_n d_CM_vanishing_11 rfl ?_
    refine P_callS (M := M_CM_vanishing) (pc := 12) (as := [.int a2]) d_CM_vanishing_12 co_CM_isThird L_CM_154 sm_CM_isThird (s_CM_isThird a2) rfl ⟨by decide, by decide⟩ ⟨by decide, by decide⟩ (by exact le_b rfl) ?_ _ rfl
    rintro _ u ⟨rfl, eu⟩
    subst u
    show PW _ _ _ _ _ _ (15, [(0, .ref 0), (1, .int (nI a1N)), (2, .int a2)], [.int (bi (inN 3 a2))], w)
    refine P_if_ne 22 d_CM_vanishing_15 (by decide) (fun c4 => ?_) (fun c4 => ?_)
    · obtain ⟨a2N, ha2N, rfl⟩ := inN_of (bi_1 c4) (by omega)
      refine P_aload_n d_CM_vanishing_22 rfl ?_
      refine P_getf (i := 0) d_CM_vanishing_23 ok_CM (by decide) L_CM_12 e0 rfl ?_
      refine P_getfN (i := 1) d_CM_vanishing_26 ok_Plane (by decide) L_CM_157 eb rfl ?_
      refine P_iload_n d_CM_vanishing_29 rfl ?_
      refine P_aald (j := a1N) (q := b + 2 + 1 + a1N) d_CM_vanishing_30 (hI.ms hb) rfl (ix_nI (by omega)) (by omega) (rows_at (by omega)) ?_
      refine P_aload_n d_CM_vanishing_31 rfl ?_
      refine P_getf (i := 8) d_CM_vanishing_32 ok_CM (by decide) L_CM_65 e0 rfl ?_
      obtain ⟨f5, f5e⟩ := hI.row (r := b + 2 + 1 + a1N) (by omega) (Kc_m hb (by omega))
      obtain ⟨f6, f6e⟩ := hI.row (r := 449) (by decide) kc_449
      refine P_callS (M := M_CM_vanishing) (pc := 35) (as := [.ref (b + 2 + 1 + a1N), .ref 449]) d_CM_vanishing_35 co_Maps_invert L_CM_202 sm_Maps_invert (s_Maps_invert f5e f6e (by decide) (by omega)) rfl ⟨by decide, by decide⟩ ⟨by decide, by decide⟩ (by exact le_b rfl) ?_ _ rfl
      rintro _ w7 ⟨rfl, g7, e7⟩
      have s7 := w_s e7
      have hI7 : I w7 := hI.setL e7 kc_449
      have hF7 : Fr SC w w7 := Fr.set Fr.rf e7 (SC_t (by omega))
      show PW _ _ _ _ _ _ (38, [(0, .ref 0), (1, .int (nI a1N)), (2, .int (nI a2N))], [], w7)
      refine P_aload_n d_CM_vanishing_38 rfl ?_
      refine P_getf (i := 8) d_CM_vanishing_39 ok_CM (by decide) L_CM_65 ((hF7.2 _ (SC_f (by omega))).trans e0) rfl ?_
      refine P_gets ("CornerMaps", "FAR_LINE", "[J", 4) (by decide) d_CM_vanishing_42 L_CM_280 ?_
      show PW _ _ _ _ _ _ (45, [(0, .ref 0), (1, .int (nI a1N)), (2, .int (nI a2N))], [.ref 1000004, .ref 449], w7)
      refine PW.ext (fun hx => ?_)
      have o8 : w7.2 1000004 = .inl (1, 3, .inr (.inl farF)) := (hx 4).trans (GO_4 hG)
      refine P_aload_n d_CM_vanishing_45 rfl ?_
      refine P_getf (i := 12) d_CM_vanishing_46 ok_CM (by decide) L_CM_78 ((hF7.2 _ (SC_f (by omega))).trans e0) rfl ?_
      obtain ⟨f9, f9e⟩ := hI7.row (r := 453) (by decide) kc_453
      refine P_callS (M := M_CM_vanishing) (pc := 49) (as := [.ref 449, .ref 1000004, .ref 453]) d_CM_vanishing_49 co_Maps_pullBack L_CM_277 sm_Maps_pullBack (s_Maps_pullBack s7 o8 f9e (by decide) (by decide) (by decide)) rfl ⟨by decide, by decide⟩ ⟨by decide, by decide⟩ (by exact le_b rfl) ?_ _ rfl
      rintro _ w10 ⟨rfl, g10, e10⟩
      have s10 := w_s e10
      have hI10 : I w10 := hI7.setL e10 kc_453
      have hF10 : Fr SC w w10 := Fr.set hF7 e10 (SC_t (by omega))
      show PW _ _ _ _ _ _ (52, [(0, .ref 0), (1, .int (nI a1N)), (2, .int (nI a2N))], [], w10)
      refine P_aload_n d_CM_vanishing_52 rfl ?_
      refine P_getf (i := 12) d_CM_vanishing_53 ok_CM (by decide) L_CM_78 ((hF10.2 _ (SC_f (by omega))).trans e0) rfl ?_
      refine P_iload_n d_CM_vanishing_56 rfl ?_
      refine P_lald (j := a2N) d_CM_vanishing_57 s10 (ix_nI (by omega)) (by omega) ?_
      exact P_lret d_CM_vanishing_58 rfl (le_b rfl) (le_b rfl) ⟨⟨_, rfl⟩, hI10, hF10⟩
    · refine P_ldc2 (v := (-9223372036854775808)) d_CM_vanishing_18 L_CM_270 ?_
      exact P_lret d_CM_vanishing_21 rfl (le_b rfl) (le_b rfl) ⟨⟨_, rfl⟩, hI, Fr.rf⟩
theorem s_CM_cut {G : pG} {w : pW} (hG : GO G) (hI : I w) (a1 : Int32) (a2 : Int32) (a3 : Int32) : PM G M_CM_cut 2 0 0 [.ref 0, .int a1, .int a2, .int a3] w (fun r w' => (∃ v, r = some (.int v)) ∧ I w' ∧ Fr SC w w') := by
  refine PM_of pn_CM_cut (le_b rfl) ?_
  show PW _ _ _ _ _ _ (0, [(0, .ref 0), (1, .int a1), (2, .int a2), (3, .int a3)], [], w)
  obtain ⟨b, hb, e0⟩ := hI.cm
  obtain ⟨hb1, hb2⟩ := pl_rng hb
  obtain ⟨lc, qc, mc, pc, eb, hlc, hqc, hmc, hpc⟩ := hI.pl hb
  refine P_aload_n d_CM_cut_0 rfl ?_
  refine P_getf (i := 0) d_CM_cut_1 ok_CM (by decide) L_CM_12 e0 rfl ?_
  refine P_iload_n d_CM_cut_4 rfl ?_
  refine P_callV (M := M_CM_cut) (pc := 5) (as := [.int a1]) (b := b) d_CM_cut_5 co_Plane_hasMap ok_Plane eb L_CM_151 im_Plane_hasMap se_Plane_hasMap (s_Plane_hasMap eb hlc hqc hmc hpc a1) rfl ⟨by decide, by decide⟩ ⟨by decide, by decide⟩ (by exact le_b rfl) ?_ _ rfl
  rintro _ u ⟨rfl, eu⟩
  subst u
  show PW _ _ _ _ _ _ (8, [(0, .ref 0), (1, .int a1), (2, .int a2), (3, .int a3)], [.int (bi (inN mc a1))], w)
  refine P_if_eq 33 d_CM_cut_8 (by decide) (fun c2 => ?_) (fun c2 => ?_)
  · refine P_iconst (v := (-1)) d_CM_cut_33 (by decide) ?_
    exact P_iret d_CM_cut_34 rfl (le_b rfl) (le_b rfl) ⟨⟨_, rfl⟩, hI, Fr.rf⟩
  · obtain ⟨a1N, ha1N, rfl⟩ := inN_of (bi_1 c2) (by omega)
    refine P_aload_n d_CM_cut_11 rfl ?_
    refine P_getf (i := 0) d_CM_cut_12 ok_CM (by decide) L_CM_12 e0 rfl ?_
    refine P_iload_n d_CM_cut_15 rfl ?_
    refine P_callV (M := M_CM_cut) (pc := 16) (as := [.int a2]) (b := b) d_CM_cut_16 co_Plane_hasPoint ok_Plane eb L_CM_160 im_Plane_hasPoint se_Plane_hasPoint (s_Plane_hasPoint eb hlc hqc hmc hpc a2) rfl ⟨by decide, by decide⟩ ⟨by decide, by decide⟩ (by exact le_b rfl) ?_ _ rfl
    rintro _ u ⟨rfl, eu⟩
    subst u
    show PW _ _ _ _ _ _ (19, [(0, .ref 0), (1, .int (nI a1N)), (2, .int a2), (3, .int a3)], [.int (bi (inN pc a2))], w)
    refine P_if_eq 33 d_CM_cut_19 (by decide) (fun c4 => ?_) (fun c4 => ?_)
    · refine P_iconst (v := (-1)) d_CM_cut_33 (by decide) ?_
      exact P_iret d_CM_cut_34 rfl (le_b rfl) (le_b rfl) ⟨⟨_, rfl⟩, hI, Fr.rf⟩
    · obtain ⟨a2N, ha2N, rfl⟩ := inN_of (bi_1 c4) (by omega)
      refine P_aload_n d_CM_cut_22 rfl ?_
      refine P_getf (i := 0) d_CM_cut_23 ok_CM (by decide) L_CM_12 e0 rfl ?_
      refine P_iload_n d_CM_cut_26 rfl ?_
      refine P_callV (M := M_CM_cut) (pc := 27) (as := [.int a3]) (b := b) d_CM_cut_27 co_Plane_hasPoint ok_Plane eb L_CM_160 im_Plane_hasPoint se_Plane_hasPoint (s_Plane_hasPoint eb hlc hqc hmc hpc a3) rfl ⟨by decide, by decide⟩ ⟨by decide, by decide⟩ (by exact le_b rfl) ?_ _ rfl
      rintro _ u ⟨rfl, eu⟩
      subst u
      show PW _ _ _ _ _ _ (30, [(0, .ref 0), (1, .int (nI a1N)), (2, .int (nI a2N)), (3, .int a3)], [.int (bi (inN pc a3))], w)
      refine P_if_ne 35 d_CM_cut_30 (by decide) (fun c6 => ?_) (fun c6 => ?_)
      · obtain ⟨a3N, ha3N, rfl⟩ := inN_of (bi_1 c6) (by omega)
        refine P_aload_n d_CM_cut_35 rfl ?_
        refine P_getf (i := 0) d_CM_cut_36 ok_CM (by decide) L_CM_12 e0 rfl ?_
        refine P_getfN (i := 2) d_CM_cut_39 ok_Plane (by decide) L_CM_163 eb rfl ?_
        refine P_iload_n d_CM_cut_42 rfl ?_
        refine P_aald (j := a2N) (q := b + 19 + 1 + a2N) d_CM_cut_43 (hI.ps hb) rfl (ix_nI (by omega)) (by omega) (rows_at (by omega)) ?_
        obtain ⟨f7, f7e⟩ := hI.row (r := b + 19 + 1 + a2N) (by omega) (Kc_p hb (by omega))
        refine P_callS (M := M_CM_cut) (pc := 44) (as := [.ref (b + 19 + 1 + a2N)]) d_CM_cut_44 co_Rows_isFinite L_CM_283 sm_Rows_isFinite (s_Rows_isFinite f7e) rfl ⟨by decide, by decide⟩ ⟨by decide, by decide⟩ (by exact le_b rfl) ?_ _ rfl
        rintro _ u ⟨⟨v8, rfl⟩, eu⟩
        subst u
        show PW _ _ _ _ _ _ (47, [(0, .ref 0), (1, .int (nI a1N)), (2, .int (nI a2N)), (3, .int (nI a3N))], [.int (bi v8)], w)
        refine P_if_eq 65 d_CM_cut_47 (by decide) (fun c9 => ?_) (fun c9 => ?_)
        · refine P_bipush (v := (-2)) d_CM_cut_65 (by decide) ?_
          exact P_iret d_CM_cut_67 rfl (le_b rfl) (le_b rfl) ⟨⟨_, rfl⟩, hI, Fr.rf⟩
        · refine P_aload_n d_CM_cut_50 rfl ?_
          refine P_getf (i := 0) d_CM_cut_51 ok_CM (by decide) L_CM_12 e0 rfl ?_
          refine P_getfN (i := 2) d_CM_cut_54 ok_Plane (by decide) L_CM_163 eb rfl ?_
          refine P_iload_n d_CM_cut_57 rfl ?_
          refine P_aald (j := a3N) (q := b + 19 + 1 + a3N) d_CM_cut_58 (hI.ps hb) rfl (ix_nI (by omega)) (by omega) (rows_at (by omega)) ?_
          obtain ⟨f10, f10e⟩ := hI.row (r := b + 19 + 1 + a3N) (by omega) (Kc_p hb (by omega))
          refine P_callS (M := M_CM_cut) (pc := 59) (as := [.ref (b + 19 + 1 + a3N)]) d_CM_cut_59 co_Rows_isFinite L_CM_283 sm_Rows_isFinite (s_Rows_isFinite f10e) rfl ⟨by decide, by decide⟩ ⟨by decide, by decide⟩ (by exact le_b rfl) ?_ _ rfl
          rintro _ u ⟨⟨v11, rfl⟩, eu⟩
          subst u
          show PW _ _ _ _ _ _ (62, [(0, .ref 0), (1, .int (nI a1N)), (2, .int (nI a2N)), (3, .int (nI a3N))], [.int (bi v11)], w)
          refine P_if_ne 68 d_CM_cut_62 (by decide) (fun c12 => ?_) (fun c12 => ?_)
          · refine P_aload_n d_CM_cut_68 rfl ?_
            refine P_getf (i := 0) d_CM_cut_69 ok_CM (by decide) L_CM_12 e0 rfl ?_
            refine P_getfN (i := 1) d_CM_cut_72 ok_Plane (by decide) L_CM_157 eb rfl ?_
            refine P_iload_n d_CM_cut_75 rfl ?_
            refine P_aald (j := a1N) (q := b + 2 + 1 + a1N) d_CM_cut_76 (hI.ms hb) rfl (ix_nI (by omega)) (by omega) (rows_at (by omega)) ?_
            refine P_aload_n d_CM_cut_77 rfl ?_
            refine P_getf (i := 0) d_CM_cut_78 ok_CM (by decide) L_CM_12 e0 rfl ?_
            refine P_getfN (i := 2) d_CM_cut_81 ok_Plane (by decide) L_CM_163 eb rfl ?_
            refine P_iload_n d_CM_cut_84 rfl ?_
            refine P_aald (j := a2N) (q := b + 19 + 1 + a2N) d_CM_cut_85 (hI.ps hb) rfl (ix_nI (by omega)) (by omega) (rows_at (by omega)) ?_
            refine P_aload_n d_CM_cut_86 rfl ?_
            refine P_getf (i := 0) d_CM_cut_87 ok_CM (by decide) L_CM_12 e0 rfl ?_
            refine P_getfN (i := 2) d_CM_cut_90 ok_Plane (by decide) L_CM_163 eb rfl ?_
            refine P_iload_n d_CM_cut_93 rfl ?_
            refine P_aald (j := a3N) (q := b + 19 + 1 + a3N) d_CM_cut_94 (hI.ps hb) rfl (ix_nI (by omega)) (by omega) (rows_at (by omega)) ?_
            obtain ⟨f13, f13e⟩ := hI.row (r := b + 2 + 1 + a1N) (by omega) (Kc_m hb (by omega))
            refine P_callS (M := M_CM_cut) (pc := 95) (as := [.ref (b + 2 + 1 + a1N), .ref (b + 19 + 1 + a2N), .ref (b + 19 + 1 + a3N)]) d_CM_cut_95 co_Maps_cuts L_CM_286 sm_Maps_cuts (s_Maps_cuts f13e f7e f10e) rfl ⟨by decide, by decide⟩ ⟨by decide, by decide⟩ (by exact le_b rfl) ?_ _ rfl
            rintro _ u ⟨⟨v14, rfl⟩, eu⟩
            subst u
            show PW _ _ _ _ _ _ (98, [(0, .ref 0), (1, .int (nI a1N)), (2, .int (nI a2N)), (3, .int (nI a3N))], [.int (bi v14)], w)
            refine P_callS (M := M_CM_cut) (pc := 98) (as := [.int (bi v14)]) d_CM_cut_98 co_CM_bit L_CM_290 sm_CM_bit (s_CM_bit (bi v14)) rfl ⟨by decide, by decide⟩ ⟨by decide, by decide⟩ (by exact le_b rfl) ?_ _ rfl
            rintro _ u ⟨⟨v15, rfl⟩, eu⟩
            subst u
            show PW _ _ _ _ _ _ (101, [(0, .ref 0), (1, .int (nI a1N)), (2, .int (nI a2N)), (3, .int (nI a3N))], [.int v15], w)
            exact P_iret d_CM_cut_101 rfl (le_b rfl) (le_b rfl) ⟨⟨_, rfl⟩, hI, Fr.rf⟩
          · refine P_bipush (v := (-2)) d_CM_cut_65 (by decide) ?_
            exact P_iret d_CM_cut_67 rfl (le_b rfl) (le_b rfl) ⟨⟨_, rfl⟩, hI, Fr.rf⟩
      · refine P_iconst (v := (-1)) d_CM_cut_33 (by decide) ?_
        exact P_iret d_CM_cut_34 rfl (le_b rfl) (le_b rfl) ⟨⟨_, rfl⟩, hI, Fr.rf⟩
theorem s_CM_cutSides {G : pG} {w : pW} (hG : GO G) (hI : I w) (a1 : Int32) (a2 : Int32) : PM G M_CM_cutSides 2 0 0 [.ref 0, .int a1, .int a2] w (fun r w' => (∃ v, r = some (.int v)) ∧ I w' ∧ Fr SC w w') := by
  refine PM_of pn_CM_cutSides (le_b rfl) ?_
  show PW _ _ _ _ _ _ (0, [(0, .ref 0), (1, .int a1), (2, .int a2)], [], w)
  obtain ⟨b, hb, e0⟩ := hI.cm
  obtain ⟨hb1, hb2⟩ := pl_rng hb
  obtain ⟨lc, qc, mc, pc, eb, hlc, hqc, hmc, hpc⟩ := hI.pl hb
  refine P_aload_n d_CM_cutSides_0 rfl ?_
  refine P_getf (i := 0) d_CM_cutSides_1 ok_CM (by decide) L_CM_12 e0 rfl ?_
  refine P_iload_n d_CM_cutSides_4 rfl ?_
  refine P_callV (M := M_CM_cutSides) (pc := 5) (as := [.int a1]) (b := b) d_CM_cutSides_5 co_Plane_hasMap ok_Plane eb L_CM_151 im_Plane_hasMap se_Plane_hasMap (s_Plane_hasMap eb hlc hqc hmc hpc a1) rfl ⟨by decide, by decide⟩ ⟨by decide, by decide⟩ (by exact le_b rfl) ?_ _ rfl
  rintro _ u ⟨rfl, eu⟩
  subst u
  show PW _ _ _ _ _ _ (8, [(0, .ref 0), (1, .int a1), (2, .int a2)], [.int (bi (inN mc a1))], w)
  refine P_if_eq 22 d_CM_cutSides_8 (by decide) (fun c2 => ?_) (fun c2 => ?_)
  · refine P_iconst (v := (-1)) d_CM_cutSides_22 (by decide) ?_
    exact P_iret d_CM_cutSides_23 rfl (le_b rfl) (le_b rfl) ⟨⟨_, rfl⟩, hI, Fr.rf⟩
  · obtain ⟨a1N, ha1N, rfl⟩ := inN_of (bi_1 c2) (by omega)
    refine P_aload_n d_CM_cutSides_11 rfl ?_
    refine P_getf (i := 0) d_CM_cutSides_12 ok_CM (by decide) L_CM_12 e0 rfl ?_
    refine P_iload_n d_CM_cutSides_15 rfl ?_
    refine P_callV (M := M_CM_cutSides) (pc := 16) (as := [.int a2]) (b := b) d_CM_cutSides_16 co_Plane_hasQuad ok_Plane eb L_CM_127 im_Plane_hasQuad se_Plane_hasQuad (s_Plane_hasQuad eb hlc hqc hmc hpc a2) rfl ⟨by decide, by decide⟩ ⟨by decide, by decide⟩ (by exact le_b rfl) ?_ _ rfl
    rintro _ u ⟨rfl, eu⟩
    subst u
    show PW _ _ _ _ _ _ (19, [(0, .ref 0), (1, .int (nI a1N)), (2, .int a2)], [.int (bi (inN qc a2))], w)
    refine P_if_ne 24 d_CM_cutSides_19 (by decide) (fun c4 => ?_) (fun c4 => ?_)
    · obtain ⟨a2N, ha2N, rfl⟩ := inN_of (bi_1 c4) (by omega)
      refine P_aload_n d_CM_cutSides_24 rfl ?_
      refine P_getf (i := 0) d_CM_cutSides_25 ok_CM (by decide) L_CM_12 e0 rfl ?_
      refine P_getfN (i := 0) d_CM_cutSides_28 ok_Plane (by decide) L_CM_142 eb rfl ?_
      refine P_iload_n d_CM_cutSides_31 rfl ?_
      refine P_aald (j := a2N) (q := b + 1 + 27 + 6 * a2N) d_CM_cutSides_32 (hI.qs hb) rfl (ix_nI (by omega)) (by omega) (pq_at (by omega)) ?_
      refine P_getfN (i := 0) d_CM_cutSides_33 ok_Quad (by decide) L_CM_146 (hI.quad hb (by omega)) rfl ?_
      refine P_astore_n d_CM_cutSides_36 (by decide) rfl ?_
      refine P_iconst (v := 0) d_CM_cutSides_37 (by decide) ?_
      refine P_istore d_CM_cutSides_38 (by decide) rfl ?_
      refine P_iconst (v := 0) d_CM_cutSides_40 (by decide) ?_
      refine P_istore d_CM_cutSides_41 (by decide) rfl ?_
      refine PW_ind (σ := Int32 × pW) (4) (fun jj ss => I (ss.2) ∧ Fr SC w (ss.2)) (fun jj ss => (43, [(0, .ref 0), (1, .int (nI a1N)), (2, .int (nI a2N)), (3, .ref (b + 1 + 27 + 6 * a2N + 1)), (4, .int ss.1), (5, .int (nI jj))], [], ss.2)) ?_ ?_ 0 (0, w) (by omega) ⟨hI, Fr.rf⟩
      · rintro ⟨j5_4, uj5⟩ ⟨hIj5, hFj5⟩
        show PW _ _ _ _ _ _ (43, [(0, .ref 0), (1, .int (nI a1N)), (2, .int (nI a2N)), (3, .ref (b + 1 + 27 + 6 * a2N + 1)), (4, .int j5_4), (5, .int 4)], [], uj5)
        refine P_iload d_CM_cutSides_43 rfl ?_
        refine P_iconst (v := 4) d_CM_cutSides_45 (by decide) ?_
        refine P_icmp_ge 91 d_CM_cutSides_46 (by decide) (fun _ => ?_) (fun h => absurd (by decide) h)
        refine P_iload d_CM_cutSides_91 rfl ?_
        exact P_iret d_CM_cutSides_93 rfl (le_b rfl) (le_b rfl) ⟨⟨_, rfl⟩, hIj5, hFj5⟩
      · rintro j5 ⟨j5_4, uj5⟩ hj5 ⟨hIj5, hFj5⟩ kkj5
        show PW _ _ _ _ _ _ (43, [(0, .ref 0), (1, .int (nI a1N)), (2, .int (nI a2N)), (3, .ref (b + 1 + 27 + 6 * a2N + 1)), (4, .int j5_4), (5, .int (nI j5))], [], uj5)
        refine P_iload d_CM_cutSides_43 rfl ?_
        refine P_iconst (v := 4) d_CM_cutSides_45 (by decide) ?_
        refine P_icmp_ge 91 d_CM_cutSides_46 (by decide) (fun h => absurd h (nI_geF (a := j5) (b := 4) (by omega) (by omega))) (fun _ => ?_)
        refine P_aload_n d_CM_cutSides_49 rfl ?_
        refine P_getf (i := 0) d_CM_cutSides_50 ok_CM (by decide) L_CM_12 ((hFj5.2 _ (SC_f (by omega))).trans e0) rfl ?_
        refine P_getfN (i := 1) d_CM_cutSides_53 ok_Plane (by decide) L_CM_157 ((hFj5.2 _ (SC_f (by omega))).trans eb) rfl ?_
        refine P_iload_n d_CM_cutSides_56 rfl ?_
        refine P_aald (j := a1N) (q := b + 2 + 1 + a1N) d_CM_cutSides_57 (hIj5.ms hb) rfl (ix_nI (by omega)) (by omega) (rows_at (by omega)) ?_
        refine P_aload_n d_CM_cutSides_58 rfl ?_
        refine P_iload d_CM_cutSides_59 rfl ?_
        refine P_aald (j := j5) (q := b + 1 + 27 + 6 * a2N + 1 + 1 + j5) d_CM_cutSides_61 (hIj5.rows (by omega) (Kc_q hb (by omega)).2.1) rfl (ix_nI (by omega)) (by omega) (rows_at (by omega)) ?_
        refine P_aload_n d_CM_cutSides_62 rfl ?_
        refine P_iload d_CM_cutSides_63 rfl ?_
        refine P_iconst (v := 1) d_CM_cutSides_65 (by decide) ?_
        refine P_iaddN (a := j5) (b := 1) d_CM_cutSides_66 ?_
        show PW _ _ _ _ _ _ (67, [(0, .ref 0), (1, .int (nI a1N)), (2, .int (nI a2N)), (3, .ref (b + 1 + 27 + 6 * a2N + 1)), (4, .int j5_4), (5, .int (nI j5))], [.int (nI (j5 + 1)), .ref (b + 1 + 27 + 6 * a2N + 1), .ref (b + 1 + 27 + 6 * a2N + 1 + 1 + j5), .ref (b + 2 + 1 + a1N)], uj5)
        refine P_iconst (v := 3) d_CM_cutSides_67 (by decide) ?_
        refine P_iandN (a := (j5 + 1)) (m := 3) 2 d_CM_cutSides_68 (by omega) (by decide) ?_
        show PW _ _ _ _ _ _ (69, [(0, .ref 0), (1, .int (nI a1N)), (2, .int (nI a2N)), (3, .ref (b + 1 + 27 + 6 * a2N + 1)), (4, .int j5_4), (5, .int (nI j5))], [.int (nI ((j5 + 1) % 4)), .ref (b + 1 + 27 + 6 * a2N + 1), .ref (b + 1 + 27 + 6 * a2N + 1 + 1 + j5), .ref (b + 2 + 1 + a1N)], uj5)
        refine P_aald (j := (j5 + 1) % 4) (q := b + 1 + 27 + 6 * a2N + 1 + 1 + ((j5 + 1) % 4)) d_CM_cutSides_69 (hIj5.rows (by omega) (Kc_q hb (by omega)).2.1) rfl (ix_nI (by omega)) (by omega) (rows_at (by omega)) ?_
        obtain ⟨f6, f6e⟩ := hIj5.row (r := b + 2 + 1 + a1N) (by omega) (Kc_m hb (by omega))
        obtain ⟨f7, f7e⟩ := hIj5.row (r := b + 1 + 27 + 6 * a2N + 1 + 1 + j5) (by omega) ((Kc_q hb (by omega)).2.2 _ (by omega))
        obtain ⟨f8, f8e⟩ := hIj5.row (r := b + 1 + 27 + 6 * a2N + 1 + 1 + ((j5 + 1) % 4)) (by omega) ((Kc_q hb (by omega)).2.2 _ (by omega))
        refine P_callS (M := M_CM_cutSides) (pc := 70) (as := [.ref (b + 2 + 1 + a1N), .ref (b + 1 + 27 + 6 * a2N + 1 + 1 + j5), .ref (b + 1 + 27 + 6 * a2N + 1 + 1 + ((j5 + 1) % 4))]) d_CM_cutSides_70 co_Maps_cuts L_CM_286 sm_Maps_cuts (s_Maps_cuts f6e f7e f8e) rfl ⟨by decide, by decide⟩ ⟨by decide, by decide⟩ (by exact le_b rfl) ?_ _ rfl
        rintro _ u ⟨⟨v9, rfl⟩, eu⟩
        subst u
        show PW _ _ _ _ _ _ (73, [(0, .ref 0), (1, .int (nI a1N)), (2, .int (nI a2N)), (3, .ref (b + 1 + 27 + 6 * a2N + 1)), (4, .int j5_4), (5, .int (nI j5))], [.int (bi v9)], uj5)
        refine P_if_eq 85 d_CM_cutSides_73 (by decide) (fun c10 => ?_) (fun c10 => ?_)
        · refine P_iinc (v := nI (j5 + 1)) d_CM_cutSides_85 (by decide) rfl (nI_add j5 1) rfl ?_
          refine P_goto 43 d_CM_cutSides_88 (by decide) ?_
          exact kkj5 (j5_4, uj5) ⟨hIj5, hFj5⟩
        · refine P_iload d_CM_cutSides_76 rfl ?_
          refine P_iconst (v := 1) d_CM_cutSides_78 (by decide) ?_
          refine P_iload d_CM_cutSides_79 rfl ?_
          refine P_ishl d_CM_cutSides_81 ?_
          generalize (1 : Int32) <<< ((nI j5) &&& 31) = zz11
          show PW _ _ _ _ _ _ (82, [(0, .ref 0), (1, .int (nI a1N)), (2, .int (nI a2N)), (3, .ref (b + 1 + 27 + 6 * a2N + 1)), (4, .int j5_4), (5, .int (nI j5))], [.int zz11, .int j5_4], uj5)
          refine P_ior d_CM_cutSides_82 ?_
          generalize j5_4 ||| zz11 = zz12
          show PW _ _ _ _ _ _ (83, [(0, .ref 0), (1, .int (nI a1N)), (2, .int (nI a2N)), (3, .ref (b + 1 + 27 + 6 * a2N + 1)), (4, .int j5_4), (5, .int (nI j5))], [.int zz12], uj5)
          refine P_istore d_CM_cutSides_83 (by decide) rfl ?_
          refine P_iinc (v := nI (j5 + 1)) d_CM_cutSides_85 (by decide) rfl (nI_add j5 1) rfl ?_
          refine P_goto 43 d_CM_cutSides_88 (by decide) ?_
          exact kkj5 (zz12, uj5) ⟨hIj5, hFj5⟩
    · refine P_iconst (v := (-1)) d_CM_cutSides_22 (by decide) ?_
      exact P_iret d_CM_cutSides_23 rfl (le_b rfl) (le_b rfl) ⟨⟨_, rfl⟩, hI, Fr.rf⟩
theorem s_CM_kind {G : pG} {w : pW} (hG : GO G) (hI : I w) (a1 : Int32) : PM G M_CM_kind 1 0 0 [.ref 0, .int a1] w (fun r w' => (∃ v, r = some (.int v)) ∧ I w' ∧ Fr SC w w') := by
  refine PM_of pn_CM_kind (le_b rfl) ?_
  show PW _ _ _ _ _ _ (0, [(0, .ref 0), (1, .int a1)], [], w)
  obtain ⟨b, hb, e0⟩ := hI.cm
  obtain ⟨hb1, hb2⟩ := pl_rng hb
  obtain ⟨lc, qc, mc, pc, eb, hlc, hqc, hmc, hpc⟩ := hI.pl hb
  refine P_aload_n d_CM_kind_0 rfl ?_
  refine P_getf (i := 0) d_CM_kind_1 ok_CM (by decide) L_CM_12 e0 rfl ?_
  refine P_iload_n d_CM_kind_4 rfl ?_
  refine P_callV (M := M_CM_kind) (pc := 5) (as := [.int a1]) (b := b) d_CM_kind_5 co_Plane_hasMap ok_Plane eb L_CM_151 im_Plane_hasMap se_Plane_hasMap (s_Plane_hasMap eb hlc hqc hmc hpc a1) rfl ⟨by decide, by decide⟩ ⟨by decide, by decide⟩ (by exact le_b rfl) ?_ _ rfl
  rintro _ u ⟨rfl, eu⟩
  subst u
  show PW _ _ _ _ _ _ (8, [(0, .ref 0), (1, .int a1)], [.int (bi (inN mc a1))], w)
  refine P_if_eq 26 d_CM_kind_8 (by decide) (fun c2 => ?_) (fun c2 => ?_)
  · refine P_iconst (v := (-1)) d_CM_kind_26 (by decide) ?_
    exact P_iret d_CM_kind_27 rfl (le_b rfl) (le_b rfl) ⟨⟨_, rfl⟩, hI, Fr.rf⟩
  · obtain ⟨a1N, ha1N, rfl⟩ := inN_of (bi_1 c2) (by omega)
    refine P_aload_n d_CM_kind_11 rfl ?_
    refine P_getf (i := 0) d_CM_kind_12 ok_CM (by decide) L_CM_12 e0 rfl ?_
    refine P_getfN (i := 1) d_CM_kind_15 ok_Plane (by decide) L_CM_157 eb rfl ?_
    refine P_iload_n d_CM_kind_18 rfl ?_
    refine P_aald (j := a1N) (q := b + 2 + 1 + a1N) d_CM_kind_19 (hI.ms hb) rfl (ix_nI (by omega)) (by omega) (rows_at (by omega)) ?_
    obtain ⟨f3, f3e⟩ := hI.row (r := b + 2 + 1 + a1N) (by omega) (Kc_m hb (by omega))
    refine P_callS (M := M_CM_kind) (pc := 20) (as := [.ref (b + 2 + 1 + a1N)]) d_CM_kind_20 co_Maps_kindOf L_CM_294 sm_Maps_kindOf (s_Maps_kindOf f3e) rfl ⟨by decide, by decide⟩ ⟨by decide, by decide⟩ (by exact le_b rfl) ?_ _ rfl
    rintro _ u ⟨⟨v4, rfl⟩, eu⟩
    subst u
    show PW _ _ _ _ _ _ (23, [(0, .ref 0), (1, .int (nI a1N))], [.int v4], w)
    refine P_goto 27 d_CM_kind_23 (by decide) ?_
    exact P_iret d_CM_kind_27 rfl (le_b rfl) (le_b rfl) ⟨⟨_, rfl⟩, hI, Fr.rf⟩
theorem s_CM_turn {G : pG} {w : pW} (hG : GO G) (hI : I w) (a1 : Int32) : PM G M_CM_turn 2 0 0 [.ref 0, .int a1] w (fun r w' => (∃ v, r = some (.int v)) ∧ I w' ∧ Fr SC w w') := by
  refine PM_of pn_CM_turn (le_b rfl) ?_
  show PW _ _ _ _ _ _ (0, [(0, .ref 0), (1, .int a1)], [], w)
  obtain ⟨b, hb, e0⟩ := hI.cm
  obtain ⟨hb1, hb2⟩ := pl_rng hb
  obtain ⟨lc, qc, mc, pc, eb, hlc, hqc, hmc, hpc⟩ := hI.pl hb
  refine P_aload_n d_CM_turn_0 rfl ?_
  refine P_getf (i := 0) d_CM_turn_1 ok_CM (by decide) L_CM_12 e0 rfl ?_
  refine P_iload_n d_CM_turn_4 rfl ?_
  refine P_callV (M := M_CM_turn) (pc := 5) (as := [.int a1]) (b := b) d_CM_turn_5 co_Plane_hasMap ok_Plane eb L_CM_151 im_Plane_hasMap se_Plane_hasMap (s_Plane_hasMap eb hlc hqc hmc hpc a1) rfl ⟨by decide, by decide⟩ ⟨by decide, by decide⟩ (by exact le_b rfl) ?_ _ rfl
  rintro _ u ⟨rfl, eu⟩
  subst u
  show PW _ _ _ _ _ _ (8, [(0, .ref 0), (1, .int a1)], [.int (bi (inN mc a1))], w)
  refine P_if_ne 13 d_CM_turn_8 (by decide) (fun c2 => ?_) (fun c2 => ?_)
  · obtain ⟨a1N, ha1N, rfl⟩ := inN_of (bi_1 c2) (by omega)
    refine P_aload_n d_CM_turn_13 rfl ?_
    refine P_getf (i := 0) d_CM_turn_14 ok_CM (by decide) L_CM_12 e0 rfl ?_
    refine P_getfN (i := 1) d_CM_turn_17 ok_Plane (by decide) L_CM_157 eb rfl ?_
    refine P_iload_n d_CM_turn_20 rfl ?_
    refine P_aald (j := a1N) (q := b + 2 + 1 + a1N) d_CM_turn_21 (hI.ms hb) rfl (ix_nI (by omega)) (by omega) (rows_at (by omega)) ?_
    refine P_astore_n d_CM_turn_22 (by decide) rfl ?_
    refine P_aload_n d_CM_turn_23 rfl ?_
    obtain ⟨f3, f3e⟩ := hI.row (r := b + 2 + 1 + a1N) (by omega) (Kc_m hb (by omega))
    refine P_callS (M := M_CM_turn) (pc := 24) (as := [.ref (b + 2 + 1 + a1N)]) d_CM_turn_24 co_Rows_greatest L_CM_297 sm_Rows_greatest (s_Rows_greatest (by decide) (by decide) f3e) rfl ⟨by decide, by decide⟩ ⟨by decide, by decide⟩ (by exact le_b rfl) ?_ _ rfl
    rintro _ u ⟨⟨v4, rfl⟩, eu⟩
    subst u
    show PW _ _ _ _ _ _ (27, [(0, .ref 0), (1, .int (nI a1N)), (2, .ref (b + 2 + 1 + a1N))], [.long v4], w)
    refine P_ldc2 (v := 1000000) d_CM_turn_27 L_CM_301 ?_
    refine P_lcmp d_CM_turn_30 ?_
    refine P_if_le 36 d_CM_turn_31 (by decide) (fun c5 => ?_) (fun c5 => ?_)
    · refine P_aload_n d_CM_turn_36 rfl ?_
      refine P_callS (M := M_CM_turn) (pc := 37) (as := [.ref (b + 2 + 1 + a1N)]) d_CM_turn_37 co_Maps_determinant L_CM_303 sm_Maps_determinant (s_Maps_determinant f3e) rfl ⟨by decide, by decide⟩ ⟨by decide, by decide⟩ (by exact le_b rfl) ?_ _ rfl
      rintro _ u ⟨⟨v6, rfl⟩, eu⟩
      subst u
      show PW _ _ _ _ _ _ (40, [(0, .ref 0), (1, .int (nI a1N)), (2, .ref (b + 2 + 1 + a1N))], [.long v6], w)
      refine P_lconst (v := 0) d_CM_turn_40 (by decide) ?_
      refine P_lcmp d_CM_turn_41 ?_
      refine P_if_le 49 d_CM_turn_42 (by decide) (fun c7 => ?_) (fun c7 => ?_)
      · refine P_iconst (v := (-1)) d_CM_turn_49 (by decide) ?_
        exact P_iret d_CM_turn_50 rfl (le_b rfl) (le_b rfl) ⟨⟨_, rfl⟩, hI, Fr.rf⟩
      · refine P_iconst (v := 1) d_CM_turn_45 (by decide) ?_
        refine P_goto 50 d_CM_turn_46 (by decide) ?_
        exact P_iret d_CM_turn_50 rfl (le_b rfl) (le_b rfl) ⟨⟨_, rfl⟩, hI, Fr.rf⟩
    · refine P_iconst (v := 2) d_CM_turn_34 (by decide) ?_
      exact P_iret d_CM_turn_35 rfl (le_b rfl) (le_b rfl) ⟨⟨_, rfl⟩, hI, Fr.rf⟩
  · refine P_iconst (v := 0) d_CM_turn_11 (by decide) ?_
    exact P_iret d_CM_turn_12 rfl (le_b rfl) (le_b rfl) ⟨⟨_, rfl⟩, hI, Fr.rf⟩
theorem s_CM_order {G : pG} {w : pW} (hG : GO G) (hI : I w) (a1 : Int32) : PM G M_CM_order 5 0 0 [.ref 0, .int a1] w (fun r w' => (∃ v, r = some (.int v)) ∧ I w' ∧ Fr SC w w') := by
  refine PM_of pn_CM_order (le_b rfl) ?_
  show PW _ _ _ _ _ _ (0, [(0, .ref 0), (1, .int a1)], [], w)
  obtain ⟨b, hb, e0⟩ := hI.cm
  obtain ⟨hb1, hb2⟩ := pl_rng hb
  obtain ⟨lc, qc, mc, pc, eb, hlc, hqc, hmc, hpc⟩ := hI.pl hb
  refine P_aload_n d_CM_order_0 rfl ?_
  refine P_getf (i := 0) d_CM_order_1 ok_CM (by decide) L_CM_12 e0 rfl ?_
  refine P_iload_n d_CM_order_4 rfl ?_
  refine P_callV (M := M_CM_order) (pc := 5) (as := [.int a1]) (b := b) d_CM_order_5 co_Plane_hasMap ok_Plane eb L_CM_151 im_Plane_hasMap se_Plane_hasMap (s_Plane_hasMap eb hlc hqc hmc hpc a1) rfl ⟨by decide, by decide⟩ ⟨by decide, by decide⟩ (by exact le_b rfl) ?_ _ rfl
  rintro _ u ⟨rfl, eu⟩
  subst u
  show PW _ _ _ _ _ _ (8, [(0, .ref 0), (1, .int a1)], [.int (bi (inN mc a1))], w)
  refine P_if_ne 13 d_CM_order_8 (by decide) (fun c2 => ?_) (fun c2 => ?_)
  · obtain ⟨a1N, ha1N, rfl⟩ := inN_of (bi_1 c2) (by omega)
    refine P_gets ("CornerMaps", "NOTHING", "[J", 3) (by decide) d_CM_order_13 L_CM_206 ?_
    show PW _ _ _ _ _ _ (16, [(0, .ref 0), (1, .int (nI a1N))], [.ref 1000003], w)
    refine PW.ext (fun hx => ?_)
    have o3 : w.2 1000003 = .inl (1, 9, .inr (.inl nthF)) := (hx 3).trans (GO_3 hG)
    refine P_aload_n d_CM_order_16 rfl ?_
    refine P_getf (i := 10) d_CM_order_17 ok_CM (by decide) L_CM_72 e0 rfl ?_
    obtain ⟨f4, f4e⟩ := hI.row (r := 451) (by decide) kc_451
    refine P_callS (M := M_CM_order) (pc := 20) (as := [.ref 1000003, .ref 451]) d_CM_order_20 co_Rows_copy L_CM_209 sm_Rows_copy (v_Rows_copy o3 f4e (by decide) (by decide)) rfl ⟨by decide, by decide⟩ ⟨by decide, by decide⟩ (by exact le_b rfl) ?_ _ rfl
    rintro _ w5 ⟨rfl, e5⟩
    have s5 := w_s e5
    generalize va_cpy _ _ _ _ _ = g6 at e5 s5
    have hI5 : I w5 := hI.setL e5 kc_451
    have hF5 : Fr SC w w5 := Fr.set Fr.rf e5 (SC_t (by omega))
    show PW _ _ _ _ _ _ (23, [(0, .ref 0), (1, .int (nI a1N))], [], w5)
    refine P_iconst (v := 1) d_CM_order_23 (by decide) ?_
    refine P_istore_n d_CM_order_24 (by decide) rfl ?_
    refine PW_ind (σ := pW) (13) (fun jj ss => I (ss) ∧ Fr SC w (ss)) (fun jj ss => (25, [(0, .ref 0), (1, .int (nI a1N)), (2, .int (nI jj))], [], ss)) ?_ ?_ 1 (w5) (by omega) ⟨hI5, hF5⟩
    · rintro uj7 ⟨hIj7, hFj7⟩
      show PW _ _ _ _ _ _ (25, [(0, .ref 0), (1, .int (nI a1N)), (2, .int 13)], [], uj7)
      refine P_iload_n d_CM_order_25 rfl ?_
      refine P_bipush (v := 12) d_CM_order_26 (by decide) ?_
      refine P_icmp_gt 71 d_CM_order_28 (by decide) (fun _ => ?_) (fun h => absurd (by decide) h)
      refine P_bipush (v := (-2)) d_CM_order_71 (by decide) ?_
      exact P_iret d_CM_order_73 rfl (le_b rfl) (le_b rfl) ⟨⟨_, rfl⟩, hIj7, hFj7⟩
    · rintro j7 uj7 hj7 ⟨hIj7, hFj7⟩ kkj7
      show PW _ _ _ _ _ _ (25, [(0, .ref 0), (1, .int (nI a1N)), (2, .int (nI j7))], [], uj7)
      refine P_iload_n d_CM_order_25 rfl ?_
      refine P_bipush (v := 12) d_CM_order_26 (by decide) ?_
      refine P_icmp_gt 71 d_CM_order_28 (by decide) (fun h => absurd h (nI_gtF (a := j7) (b := 12) (by omega) (by omega))) (fun _ => ?_)
      refine P_aload_n d_CM_order_31 rfl ?_
      refine P_aload_n d_CM_order_32 rfl ?_
      refine P_getf (i := 0) d_CM_order_33 ok_CM (by decide) L_CM_12 ((hFj7.2 _ (SC_f (by omega))).trans e0) rfl ?_
      refine P_getfN (i := 1) d_CM_order_36 ok_Plane (by decide) L_CM_157 ((hFj7.2 _ (SC_f (by omega))).trans eb) rfl ?_
      refine P_iload_n d_CM_order_39 rfl ?_
      refine P_aald (j := a1N) (q := b + 2 + 1 + a1N) d_CM_order_40 (hIj7.ms hb) rfl (ix_nI (by omega)) (by omega) (rows_at (by omega)) ?_
      refine P_callV (M := M_CM_order) (pc := 41) (as := [.ref (b + 2 + 1 + a1N)]) (b := 0) d_CM_order_41 co_CM_rise ok_CM ((hFj7.2 _ (SC_f (by omega))).trans e0) L_CM_214 im_CM_rise se_CM_rise (s_CM_rise hG hIj7 (by omega) (Kc_m hb (by omega)) (by omega)) rfl ⟨by decide, by decide⟩ ⟨by decide, by decide⟩ (by exact le_b rfl) ?_ _ rfl
      rintro _ w8 ⟨⟨v8, rfl⟩, hI8, hG8⟩
      have hF8 : Fr SC w w8 := Fr.tr hFj7 hG8
      show PW _ _ _ _ _ _ (44, [(0, .ref 0), (1, .int (nI a1N)), (2, .int (nI j7))], [.int (bi v8)], w8)
      refine P_if_ne 50 d_CM_order_44 (by decide) (fun c9 => ?_) (fun c9 => ?_)
      · refine P_aload_n d_CM_order_50 rfl ?_
        refine P_getf (i := 10) d_CM_order_51 ok_CM (by decide) L_CM_72 ((hF8.2 _ (SC_f (by omega))).trans e0) rfl ?_
        refine P_gets ("CornerMaps", "NOTHING", "[J", 3) (by decide) d_CM_order_54 L_CM_206 ?_
        show PW _ _ _ _ _ _ (57, [(0, .ref 0), (1, .int (nI a1N)), (2, .int (nI j7))], [.ref 1000003, .ref 451], w8)
        refine PW.ext (fun hx => ?_)
        have o10 : w8.2 1000003 = .inl (1, 9, .inr (.inl nthF)) := (hx 3).trans (GO_3 hG)
        obtain ⟨f11, f11e⟩ := hI8.row (r := 451) (by decide) kc_451
        refine P_callS (M := M_CM_order) (pc := 57) (as := [.ref 451, .ref 1000003]) d_CM_order_57 co_Rows_alike L_CM_306 sm_Rows_alike (s_Rows_alike (by decide) (by decide) f11e o10) rfl ⟨by decide, by decide⟩ ⟨by decide, by decide⟩ (by exact le_b rfl) ?_ _ rfl
        rintro _ u ⟨⟨v12, rfl⟩, eu⟩
        subst u
        show PW _ _ _ _ _ _ (60, [(0, .ref 0), (1, .int (nI a1N)), (2, .int (nI j7))], [.int (bi v12)], w8)
        refine P_if_eq 65 d_CM_order_60 (by decide) (fun c13 => ?_) (fun c13 => ?_)
        · refine P_iinc (v := nI (j7 + 1)) d_CM_order_65 (by decide) rfl (nI_add j7 1) rfl ?_
          refine P_goto 25 d_CM_order_68 (by decide) ?_
          exact kkj7 (w8) ⟨hI8, hF8⟩
        · refine P_iload_n d_CM_order_63 rfl ?_
          exact P_iret d_CM_order_64 rfl (le_b rfl) (le_b rfl) ⟨⟨_, rfl⟩, hI8, hF8⟩
      · refine P_bipush (v := (-2)) d_CM_order_47 (by decide) ?_
        exact P_iret d_CM_order_49 rfl (le_b rfl) (le_b rfl) ⟨⟨_, rfl⟩, hI8, hF8⟩
  · refine P_iconst (v := (-1)) d_CM_order_11 (by decide) ?_
    exact P_iret d_CM_order_12 rfl (le_b rfl) (le_b rfl) ⟨⟨_, rfl⟩, hI, Fr.rf⟩
