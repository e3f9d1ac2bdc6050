/-! shapes: the class (by program) -/
theorem s_CM_same {G : pG} {w : pW} (hG : GO G) (hI : I w) (a1 : Int32) (a2 : Int32) : PM G M_CM_same 1 0 0 [.ref 0, .int a1, .int a2] w (fun r w' => (∃ v, r = some (.int v)) ∧ I w' ∧ Fr SC w w') := by
  refine PM_of pn_CM_same (le_b rfl) ?_
  show PW _ _ _ _ _ _ (0, [(0, .ref 0), (1, .int a1), (2, .int a2)], [], w)
  obtain ⟨b, hb, e0⟩ := hI.cm
  obtain ⟨hb1, hb2⟩ := pl_rng hb
  obtain ⟨lc, qc, mc, pc, eb, hlc, hqc, hmc, hpc⟩ := hI.pl hb
  refine P_aload_n d_CM_same_0 rfl ?_
  refine P_getf (i := 0) d_CM_same_1 ok_CM (by decide) L_CM_12 e0 rfl ?_
  refine P_iload_n d_CM_same_4 rfl ?_
  refine P_callV (M := M_CM_same) (pc := 5) (as := [.int a1]) (b := b) d_CM_same_5 co_Plane_hasMap ok_Plane eb L_CM_151 im_Plane_hasMap se_Plane_hasMap (s_Plane_hasMap eb hlc hqc hmc hpc a1) rfl ⟨by decide, by decide⟩ ⟨by decide, by decide⟩ (by exact le_b rfl) ?_ _ rfl
  rintro _ u ⟨rfl, eu⟩
  subst u
  show PW _ _ _ _ _ _ (8, [(0, .ref 0), (1, .int a1), (2, .int a2)], [.int (bi (inN mc a1))], w)
  refine P_if_eq 22 d_CM_same_8 (by decide) (fun c2 => ?_) (fun c2 => ?_)
  · refine P_iconst (v := (-1)) d_CM_same_22 (by decide) ?_
    exact P_iret d_CM_same_23 rfl (le_b rfl) (le_b rfl) ⟨⟨_, rfl⟩, hI, Fr.rf⟩
  · obtain ⟨a1N, ha1N, rfl⟩ := inN_of (bi_1 c2) (by omega)
    refine P_aload_n d_CM_same_11 rfl ?_
    refine P_getf (i := 0) d_CM_same_12 ok_CM (by decide) L_CM_12 e0 rfl ?_
    refine P_iload_n d_CM_same_15 rfl ?_
    refine P_callV (M := M_CM_same) (pc := 16) (as := [.int a2]) (b := b) d_CM_same_16 co_Plane_hasMap ok_Plane eb L_CM_151 im_Plane_hasMap se_Plane_hasMap (s_Plane_hasMap eb hlc hqc hmc hpc a2) rfl ⟨by decide, by decide⟩ ⟨by decide, by decide⟩ (by exact le_b rfl) ?_ _ rfl
    rintro _ u ⟨rfl, eu⟩
    subst u
    show PW _ _ _ _ _ _ (19, [(0, .ref 0), (1, .int (nI a1N)), (2, .int a2)], [.int (bi (inN mc a2))], w)
    refine P_if_ne 24 d_CM_same_19 (by decide) (fun c4 => ?_) (fun c4 => ?_)
    · obtain ⟨a2N, ha2N, rfl⟩ := inN_of (bi_1 c4) (by omega)
      refine P_aload_n d_CM_same_24 rfl ?_
      refine P_getf (i := 0) d_CM_same_25 ok_CM (by decide) L_CM_12 e0 rfl ?_
      refine P_getfN (i := 1) d_CM_same_28 ok_Plane (by decide) L_CM_157 eb rfl ?_
      refine P_iload_n d_CM_same_31 rfl ?_
      refine P_aald (j := a1N) (q := b + 2 + 1 + a1N) d_CM_same_32 (hI.ms hb) rfl (ix_nI (by omega)) (by omega) (rows_at (by omega)) ?_
      refine P_aload_n d_CM_same_33 rfl ?_
      refine P_getf (i := 0) d_CM_same_34 ok_CM (by decide) L_CM_12 e0 rfl ?_
      refine P_getfN (i := 1) d_CM_same_37 ok_Plane (by decide) L_CM_157 eb rfl ?_
      refine P_iload_n d_CM_same_40 rfl ?_
      refine P_aald (j := a2N) (q := b + 2 + 1 + a2N) d_CM_same_41 (hI.ms hb) rfl (ix_nI (by omega)) (by omega) (rows_at (by omega)) ?_
      obtain ⟨f5, f5e⟩ := hI.row (r := b + 2 + 1 + a1N) (by omega) (Kc_m hb (by omega))
      obtain ⟨f6, f6e⟩ := hI.row (r := b + 2 + 1 + a2N) (by omega) (Kc_m hb (by omega))
      refine P_callS (M := M_CM_same) (pc := 42) (as := [.ref (b + 2 + 1 + a1N), .ref (b + 2 + 1 + a2N)]) d_CM_same_42 co_Rows_alike L_CM_306 sm_Rows_alike (s_Rows_alike (by decide) (by decide) f5e f6e) rfl ⟨by decide, by decide⟩ ⟨by decide, by decide⟩ (by exact le_b rfl) ?_ _ rfl
      rintro _ u ⟨⟨v7, rfl⟩, eu⟩
      subst u
      show PW _ _ _ _ _ _ (45, [(0, .ref 0), (1, .int (nI a1N)), (2, .int (nI a2N))], [.int (bi v7)], w)
      refine P_callS (M := M_CM_same) (pc := 45) (as := [.int (bi v7)]) d_CM_same_45 co_CM_bit L_CM_290 sm_CM_bit (s_CM_bit (bi v7)) rfl ⟨by decide, by decide⟩ ⟨by decide, by decide⟩ (by exact le_b rfl) ?_ _ rfl
      rintro _ u ⟨⟨v8, rfl⟩, eu⟩
      subst u
      show PW _ _ _ _ _ _ (48, [(0, .ref 0), (1, .int (nI a1N)), (2, .int (nI a2N))], [.int v8], w)
      exact P_iret d_CM_same_48 rfl (le_b rfl) (le_b rfl) ⟨⟨_, rfl⟩, hI, Fr.rf⟩
    · refine P_iconst (v := (-1)) d_CM_same_22 (by decide) ?_
      exact P_iret d_CM_same_23 rfl (le_b rfl) (le_b rfl) ⟨⟨_, rfl⟩, hI, Fr.rf⟩
theorem s_CM_commute {G : pG} {w : pW} (hG : GO G) (hI : I w) (a1 : Int32) (a2 : Int32) : PM G M_CM_commute 5 0 0 [.ref 0, .int a1, .int a2] w (fun r w' => (∃ v, r = some (.int v)) ∧ I w' ∧ Fr SC w w') := by
  refine PM_of pn_CM_commute (le_b rfl) ?_
  show PW _ _ _ _ _ _ (0, [(0, .ref 0), (1, .int a1), (2, .int a2)], [], w)
  obtain ⟨b, hb, e0⟩ := hI.cm
  obtain ⟨hb1, hb2⟩ := pl_rng hb
  obtain ⟨lc, qc, mc, pc, eb, hlc, hqc, hmc, hpc⟩ := hI.pl hb
  refine P_aload_n d_CM_commute_0 rfl ?_
  refine P_getf (i := 0) d_CM_commute_1 ok_CM (by decide) L_CM_12 e0 rfl ?_
  refine P_iload_n d_CM_commute_4 rfl ?_
  refine P_callV (M := M_CM_commute) (pc := 5) (as := [.int a1]) (b := b) d_CM_commute_5 co_Plane_hasMap ok_Plane eb L_CM_151 im_Plane_hasMap se_Plane_hasMap (s_Plane_hasMap eb hlc hqc hmc hpc a1) rfl ⟨by decide, by decide⟩ ⟨by decide, by decide⟩ (by exact le_b rfl) ?_ _ rfl
  rintro _ u ⟨rfl, eu⟩
  subst u
  show PW _ _ _ _ _ _ (8, [(0, .ref 0), (1, .int a1), (2, .int a2)], [.int (bi (inN mc a1))], w)
  refine P_if_eq 22 d_CM_commute_8 (by decide) (fun c2 => ?_) (fun c2 => ?_)
  · refine P_iconst (v := (-1)) d_CM_commute_22 (by decide) ?_
    exact P_iret d_CM_commute_23 rfl (le_b rfl) (le_b rfl) ⟨⟨_, rfl⟩, hI, Fr.rf⟩
  · obtain ⟨a1N, ha1N, rfl⟩ := inN_of (bi_1 c2) (by omega)
    refine P_aload_n d_CM_commute_11 rfl ?_
    refine P_getf (i := 0) d_CM_commute_12 ok_CM (by decide) L_CM_12 e0 rfl ?_
    refine P_iload_n d_CM_commute_15 rfl ?_
    refine P_callV (M := M_CM_commute) (pc := 16) (as := [.int a2]) (b := b) d_CM_commute_16 co_Plane_hasMap ok_Plane eb L_CM_151 im_Plane_hasMap se_Plane_hasMap (s_Plane_hasMap eb hlc hqc hmc hpc a2) rfl ⟨by decide, by decide⟩ ⟨by decide, by decide⟩ (by exact le_b rfl) ?_ _ rfl
    rintro _ u ⟨rfl, eu⟩
    subst u
    show PW _ _ _ _ _ _ (19, [(0, .ref 0), (1, .int (nI a1N)), (2, .int a2)], [.int (bi (inN mc a2))], w)
    refine P_if_ne 24 d_CM_commute_19 (by decide) (fun c4 => ?_) (fun c4 => ?_)
    · obtain ⟨a2N, ha2N, rfl⟩ := inN_of (bi_1 c4) (by omega)
      refine P_aload_n d_CM_commute_24 rfl ?_
      refine P_iload_n d_CM_commute_25 rfl ?_
      refine P_iload_n d_CM_commute_26 rfl ?_
      refine P_callV (M := M_CM_commute) (pc := 27) (as := [.int (nI a1N), .int (nI a2N)]) (b := 0) d_CM_commute_27 co_CM_doCommute ok_CM e0 L_CM_310 im_CM_doCommute se_CM_doCommute (s_CM_doCommute hG hI a1N (by omega) a2N (by omega)) rfl ⟨by decide, by decide⟩ ⟨by decide, by decide⟩ (by exact le_b rfl) ?_ _ rfl
      rintro _ w5 ⟨⟨v5, rfl⟩, hI5, hG5⟩
      have hF5 : Fr SC w w5 := Fr.tr Fr.rf hG5
      show PW _ _ _ _ _ _ (30, [(0, .ref 0), (1, .int (nI a1N)), (2, .int (nI a2N))], [.int (bi v5)], w5)
      refine P_callS (M := M_CM_commute) (pc := 30) (as := [.int (bi v5)]) d_CM_commute_30 co_CM_bit L_CM_290 sm_CM_bit (s_CM_bit (bi v5)) rfl ⟨by decide, by decide⟩ ⟨by decide, by decide⟩ (by exact le_b rfl) ?_ _ rfl
      rintro _ u ⟨⟨v6, rfl⟩, eu⟩
      subst u
      show PW _ _ _ _ _ _ (33, [(0, .ref 0), (1, .int (nI a1N)), (2, .int (nI a2N))], [.int v6], w5)
      exact P_iret d_CM_commute_33 rfl (le_b rfl) (le_b rfl) ⟨⟨_, rfl⟩, hI5, hF5⟩
    · refine P_iconst (v := (-1)) d_CM_commute_22 (by decide) ?_
      exact P_iret d_CM_commute_23 rfl (le_b rfl) (le_b rfl) ⟨⟨_, rfl⟩, hI, Fr.rf⟩
theorem s_CM_undoes {G : pG} {w : pW} (hG : GO G) (hI : I w) (a1 : Int32) (a2 : Int32) : PM G M_CM_undoes 5 0 0 [.ref 0, .int a1, .int a2] w (fun r w' => (∃ v, r = some (.int v)) ∧ I w' ∧ Fr SC w w') := by
  refine PM_of pn_CM_undoes (le_b rfl) ?_
  show PW _ _ _ _ _ _ (0, [(0, .ref 0), (1, .int a1), (2, .int a2)], [], w)
  obtain ⟨b, hb, e0⟩ := hI.cm
  obtain ⟨hb1, hb2⟩ := pl_rng hb
  obtain ⟨lc, qc, mc, pc, eb, hlc, hqc, hmc, hpc⟩ := hI.pl hb
  refine P_aload_n d_CM_undoes_0 rfl ?_
  refine P_getf (i := 0) d_CM_undoes_1 ok_CM (by decide) L_CM_12 e0 rfl ?_
  refine P_iload_n d_CM_undoes_4 rfl ?_
  refine P_callV (M := M_CM_undoes) (pc := 5) (as := [.int a1]) (b := b) d_CM_undoes_5 co_Plane_hasMap ok_Plane eb L_CM_151 im_Plane_hasMap se_Plane_hasMap (s_Plane_hasMap eb hlc hqc hmc hpc a1) rfl ⟨by decide, by decide⟩ ⟨by decide, by decide⟩ (by exact le_b rfl) ?_ _ rfl
  rintro _ u ⟨rfl, eu⟩
  subst u
  show PW _ _ _ _ _ _ (8, [(0, .ref 0), (1, .int a1), (2, .int a2)], [.int (bi (inN mc a1))], w)
  refine P_if_eq 22 d_CM_undoes_8 (by decide) (fun c2 => ?_) (fun c2 => ?_)
  · refine P_iconst (v := (-1)) d_CM_undoes_22 (by decide) ?_
    exact P_iret d_CM_undoes_23 rfl (le_b rfl) (le_b rfl) ⟨⟨_, rfl⟩, hI, Fr.rf⟩
  · obtain ⟨a1N, ha1N, rfl⟩ := inN_of (bi_1 c2) (by omega)
    refine P_aload_n d_CM_undoes_11 rfl ?_
    refine P_getf (i := 0) d_CM_undoes_12 ok_CM (by decide) L_CM_12 e0 rfl ?_
    refine P_iload_n d_CM_undoes_15 rfl ?_
    refine P_callV (M := M_CM_undoes) (pc := 16) (as := [.int a2]) (b := b) d_CM_undoes_16 co_Plane_hasMap ok_Plane eb L_CM_151 im_Plane_hasMap se_Plane_hasMap (s_Plane_hasMap eb hlc hqc hmc hpc a2) rfl ⟨by decide, by decide⟩ ⟨by decide, by decide⟩ (by exact le_b rfl) ?_ _ rfl
    rintro _ u ⟨rfl, eu⟩
    subst u
    show PW _ _ _ _ _ _ (19, [(0, .ref 0), (1, .int (nI a1N)), (2, .int a2)], [.int (bi (inN mc a2))], w)
    refine P_if_ne 24 d_CM_undoes_19 (by decide) (fun c4 => ?_) (fun c4 => ?_)
    · obtain ⟨a2N, ha2N, rfl⟩ := inN_of (bi_1 c4) (by omega)
      refine P_aload_n d_CM_undoes_24 rfl ?_
      refine P_iload_n d_CM_undoes_25 rfl ?_
      refine P_iload_n d_CM_undoes_26 rfl ?_
      refine P_callV (M := M_CM_undoes) (pc := 27) (as := [.int (nI a1N), .int (nI a2N)]) (b := 0) d_CM_undoes_27 co_CM_areInverse ok_CM e0 L_CM_314 im_CM_areInverse se_CM_areInverse (s_CM_areInverse hG hI a1N (by omega) a2N (by omega)) rfl ⟨by decide, by decide⟩ ⟨by decide, by decide⟩ (by exact le_b rfl) ?_ _ rfl
      rintro _ w5 ⟨⟨v5, rfl⟩, hI5, hG5⟩
      have hF5 : Fr SC w w5 := Fr.tr Fr.rf hG5
      show PW _ _ _ _ _ _ (30, [(0, .ref 0), (1, .int (nI a1N)), (2, .int (nI a2N))], [.int (bi v5)], w5)
      refine P_callS (M := M_CM_undoes) (pc := 30) (as := [.int (bi v5)]) d_CM_undoes_30 co_CM_bit L_CM_290 sm_CM_bit (s_CM_bit (bi v5)) rfl ⟨by decide, by decide⟩ ⟨by decide, by decide⟩ (by exact le_b rfl) ?_ _ rfl
      rintro _ u ⟨⟨v6, rfl⟩, eu⟩
      subst u
      show PW _ _ _ _ _ _ (33, [(0, .ref 0), (1, .int (nI a1N)), (2, .int (nI a2N))], [.int v6], w5)
      exact P_iret d_CM_undoes_33 rfl (le_b rfl) (le_b rfl) ⟨⟨_, rfl⟩, hI5, hF5⟩
    · refine P_iconst (v := (-1)) d_CM_undoes_22 (by decide) ?_
      exact P_iret d_CM_undoes_23 rfl (le_b rfl) (le_b rfl) ⟨⟨_, rfl⟩, hI, Fr.rf⟩
theorem s_CM_stays {G : pG} {w : pW} (hG : GO G) (hI : I w) (a1 : Int32) (a2 : Int32) : PM G M_CM_stays 5 0 0 [.ref 0, .int a1, .int a2] w (fun r w' => (∃ v, r = some (.int v)) ∧ I w' ∧ Fr SC w w') := by
  refine PM_of pn_CM_stays (le_b rfl) ?_
  show PW _ _ _ _ _ _ (0, [(0, .ref 0), (1, .int a1), (2, .int a2)], [], w)
  obtain ⟨b, hb, e0⟩ := hI.cm
  obtain ⟨hb1, hb2⟩ := pl_rng hb
  obtain ⟨lc, qc, mc, pc, eb, hlc, hqc, hmc, hpc⟩ := hI.pl hb
  refine P_aload_n d_CM_stays_0 rfl ?_
  refine P_getf (i := 0) d_CM_stays_1 ok_CM (by decide) L_CM_12 e0 rfl ?_
  refine P_iload_n d_CM_stays_4 rfl ?_
  refine P_callV (M := M_CM_stays) (pc := 5) (as := [.int a1]) (b := b) d_CM_stays_5 co_Plane_hasMap ok_Plane eb L_CM_151 im_Plane_hasMap se_Plane_hasMap (s_Plane_hasMap eb hlc hqc hmc hpc a1) rfl ⟨by decide, by decide⟩ ⟨by decide, by decide⟩ (by exact le_b rfl) ?_ _ rfl
  rintro _ u ⟨rfl, eu⟩
  subst u
  show PW _ _ _ _ _ _ (8, [(0, .ref 0), (1, .int a1), (2, .int a2)], [.int (bi (inN mc a1))], w)
  refine P_if_eq 22 d_CM_stays_8 (by decide) (fun c2 => ?_) (fun c2 => ?_)
  · refine P_iconst (v := (-1)) d_CM_stays_22 (by decide) ?_
    exact P_iret d_CM_stays_23 rfl (le_b rfl) (le_b rfl) ⟨⟨_, rfl⟩, hI, Fr.rf⟩
  · obtain ⟨a1N, ha1N, rfl⟩ := inN_of (bi_1 c2) (by omega)
    refine P_aload_n d_CM_stays_11 rfl ?_
    refine P_getf (i := 0) d_CM_stays_12 ok_CM (by decide) L_CM_12 e0 rfl ?_
    refine P_iload_n d_CM_stays_15 rfl ?_
    refine P_callV (M := M_CM_stays) (pc := 16) (as := [.int a2]) (b := b) d_CM_stays_16 co_Plane_hasPoint ok_Plane eb L_CM_160 im_Plane_hasPoint se_Plane_hasPoint (s_Plane_hasPoint eb hlc hqc hmc hpc a2) rfl ⟨by decide, by decide⟩ ⟨by decide, by decide⟩ (by exact le_b rfl) ?_ _ rfl
    rintro _ u ⟨rfl, eu⟩
    subst u
    show PW _ _ _ _ _ _ (19, [(0, .ref 0), (1, .int (nI a1N)), (2, .int a2)], [.int (bi (inN pc a2))], w)
    refine P_if_ne 24 d_CM_stays_19 (by decide) (fun c4 => ?_) (fun c4 => ?_)
    · obtain ⟨a2N, ha2N, rfl⟩ := inN_of (bi_1 c4) (by omega)
      refine P_aload_n d_CM_stays_24 rfl ?_
      refine P_aload_n d_CM_stays_25 rfl ?_
      refine P_getf (i := 0) d_CM_stays_26 ok_CM (by decide) L_CM_12 e0 rfl ?_
      refine P_getfN (i := 1) d_CM_stays_29 ok_Plane (by decide) L_CM_157 eb rfl ?_
      refine P_iload_n d_CM_stays_32 rfl ?_
      refine P_aald (j := a1N) (q := b + 2 + 1 + a1N) d_CM_stays_33 (hI.ms hb) rfl (ix_nI (by omega)) (by omega) (rows_at (by omega)) ?_
      refine P_aload_n d_CM_stays_34 rfl ?_
      refine P_getf (i := 0) d_CM_stays_35 ok_CM (by decide) L_CM_12 e0 rfl ?_
      refine P_getfN (i := 2) d_CM_stays_38 ok_Plane (by decide) L_CM_163 eb rfl ?_
      refine P_iload_n d_CM_stays_41 rfl ?_
      refine P_aald (j := a2N) (q := b + 19 + 1 + a2N) d_CM_stays_42 (hI.ps hb) rfl (ix_nI (by omega)) (by omega) (rows_at (by omega)) ?_
      refine P_callV (M := M_CM_stays) (pc := 43) (as := [.ref (b + 2 + 1 + a1N), .ref (b + 19 + 1 + a2N)]) (b := 0) d_CM_stays_43 co_CM_isKept ok_CM e0 L_CM_317 im_CM_isKept se_CM_isKept (s_CM_isKept hG hI (by omega) (Kc_m hb (by omega)) (by omega) (Kc_p hb (by omega)) (by omega) (by omega)) rfl ⟨by decide, by decide⟩ ⟨by decide, by decide⟩ (by exact le_b rfl) ?_ _ rfl
      rintro _ w5 ⟨⟨v5, rfl⟩, hI5, hG5⟩
      have hF5 : Fr SC w w5 := Fr.tr Fr.rf hG5
      show PW _ _ _ _ _ _ (46, [(0, .ref 0), (1, .int (nI a1N)), (2, .int (nI a2N))], [.int (bi v5)], w5)
      refine P_callS (M := M_CM_stays) (pc := 46) (as := [.int (bi v5)]) d_CM_stays_46 co_CM_bit L_CM_290 sm_CM_bit (s_CM_bit (bi v5)) rfl ⟨by decide, by decide⟩ ⟨by decide, by decide⟩ (by exact le_b rfl) ?_ _ rfl
      rintro _ u ⟨⟨v6, rfl⟩, eu⟩
      subst u
      show PW _ _ _ _ _ _ (49, [(0, .ref 0), (1, .int (nI a1N)), (2, .int (nI a2N))], [.int v6], w5)
      exact P_iret d_CM_stays_49 rfl (le_b rfl) (le_b rfl) ⟨⟨_, rfl⟩, hI5, hF5⟩
    · refine P_iconst (v := (-1)) d_CM_stays_22 (by decide) ?_
      exact P_iret d_CM_stays_23 rfl (le_b rfl) (le_b rfl) ⟨⟨_, rfl⟩, hI, Fr.rf⟩
theorem s_CM_points {G : pG} {w : pW} (hG : GO G) (hI : I w) (a1 : Int32) (a2 : Int32) : PM G M_CM_points 6 0 0 [.ref 0, .int a1, .int a2] w (fun r w' => (∃ v, r = some (.int v)) ∧ I w' ∧ Fr SC w w') := by
  refine PM_of pn_CM_points (le_b rfl) ?_
  show PW _ _ _ _ _ _ (0, [(0, .ref 0), (1, .int a1), (2, .int a2)], [], w)
  obtain ⟨b, hb, e0⟩ := hI.cm
  obtain ⟨hb1, hb2⟩ := pl_rng hb
  obtain ⟨lc, qc, mc, pc, eb, hlc, hqc, hmc, hpc⟩ := hI.pl hb
  refine P_aload_n d_CM_points_0 rfl ?_
  refine P_getf (i := 0) d_CM_points_1 ok_CM (by decide) L_CM_12 e0 rfl ?_
  refine P_iload_n d_CM_points_4 rfl ?_
  refine P_callV (M := M_CM_points) (pc := 5) (as := [.int a1]) (b := b) d_CM_points_5 co_Plane_hasMap ok_Plane eb L_CM_151 im_Plane_hasMap se_Plane_hasMap (s_Plane_hasMap eb hlc hqc hmc hpc a1) rfl ⟨by decide, by decide⟩ ⟨by decide, by decide⟩ (by exact le_b rfl) ?_ _ rfl
  rintro _ u ⟨rfl, eu⟩
  subst u
  show PW _ _ _ _ _ _ (8, [(0, .ref 0), (1, .int a1), (2, .int a2)], [.int (bi (inN mc a1))], w)
  refine P_if_eq 18 d_CM_points_8 (by decide) (fun c2 => ?_) (fun c2 => ?_)
  · refine P_iconst (v := (-1)) d_CM_points_18 (by decide) ?_
    exact P_iret d_CM_points_19 rfl (le_b rfl) (le_b rfl) ⟨⟨_, rfl⟩, hI, Fr.rf⟩
  · obtain ⟨a1N, ha1N, rfl⟩ := inN_of (bi_1 c2) (by omega)
    refine P_iload_n d_CM_points_11 rfl ?_
    refine P_callS (M := M_CM_points) (pc := 12) (as := [.int a2]) d_CM_points_12 co_CM_isThird L_CM_154 sm_CM_isThird (s_CM_isThird a2) rfl ⟨by decide, by decide⟩ ⟨by decide, by decide⟩ (by exact le_b rfl) ?_ _ rfl
    rintro _ u ⟨rfl, eu⟩
    subst u
    show PW _ _ _ _ _ _ (15, [(0, .ref 0), (1, .int (nI a1N)), (2, .int a2)], [.int (bi (inN 3 a2))], w)
    refine P_if_ne 20 d_CM_points_15 (by decide) (fun c4 => ?_) (fun c4 => ?_)
    · obtain ⟨a2N, ha2N, rfl⟩ := inN_of (bi_1 c4) (by omega)
      refine P_iconst (v := 0) d_CM_points_20 (by decide) ?_
      refine P_istore_n d_CM_points_21 (by decide) rfl ?_
      refine P_iconst (v := 0) d_CM_points_22 (by decide) ?_
      refine P_istore d_CM_points_23 (by decide) rfl ?_
      refine PW_ind (σ := Int32 × pW) (pc) (fun jj ss => I (ss.2) ∧ Fr SC w (ss.2)) (fun jj ss => (25, [(0, .ref 0), (1, .int (nI a1N)), (2, .int (nI a2N)), (3, .int ss.1), (4, .int (nI jj))], [], ss.2)) ?_ ?_ 0 (0, w) (by omega) ⟨hI, Fr.rf⟩
      · rintro ⟨j5_3, uj5⟩ ⟨hIj5, hFj5⟩
        show PW _ _ _ _ _ _ (25, [(0, .ref 0), (1, .int (nI a1N)), (2, .int (nI a2N)), (3, .int j5_3), (4, .int (nI pc))], [], uj5)
        refine P_iload d_CM_points_25 rfl ?_
        refine P_aload_n d_CM_points_27 rfl ?_
        refine P_getf (i := 0) d_CM_points_28 ok_CM (by decide) L_CM_12 ((hFj5.2 _ (SC_f (by omega))).trans e0) rfl ?_
        refine P_getfN (i := 6) d_CM_points_31 ok_Plane (by decide) L_CM_232 ((hFj5.2 _ (SC_f (by omega))).trans eb) rfl ?_
        refine P_icmp_ge 73 d_CM_points_34 (by decide) (fun _ => ?_) (fun h => absurd (Int32.le_refl _) h)
        refine P_iload_n d_CM_points_73 rfl ?_
        exact P_iret d_CM_points_74 rfl (le_b rfl) (le_b rfl) ⟨⟨_, rfl⟩, hIj5, hFj5⟩
      · rintro j5 ⟨j5_3, uj5⟩ hj5 ⟨hIj5, hFj5⟩ kkj5
        show PW _ _ _ _ _ _ (25, [(0, .ref 0), (1, .int (nI a1N)), (2, .int (nI a2N)), (3, .int j5_3), (4, .int (nI j5))], [], uj5)
        refine P_iload d_CM_points_25 rfl ?_
        refine P_aload_n d_CM_points_27 rfl ?_
        refine P_getf (i := 0) d_CM_points_28 ok_CM (by decide) L_CM_12 ((hFj5.2 _ (SC_f (by omega))).trans e0) rfl ?_
        refine P_getfN (i := 6) d_CM_points_31 ok_Plane (by decide) L_CM_232 ((hFj5.2 _ (SC_f (by omega))).trans eb) rfl ?_
        refine P_icmp_ge 73 d_CM_points_34 (by decide) (fun h => absurd h (nI_geF (a := j5) (b := pc) (by omega) (by omega))) (fun _ => ?_)
        refine P_aload_n d_CM_points_37 rfl ?_
        refine P_aload_n d_CM_points_38 rfl ?_
        refine P_getf (i := 0) d_CM_points_39 ok_CM (by decide) L_CM_12 ((hFj5.2 _ (SC_f (by omega))).trans e0) rfl ?_
        refine P_getfN (i := 1) d_CM_points_42 ok_Plane (by decide) L_CM_157 ((hFj5.2 _ (SC_f (by omega))).trans eb) rfl ?_
        refine P_iload_n d_CM_points_45 rfl ?_
        refine P_aald (j := a1N) (q := b + 2 + 1 + a1N) d_CM_points_46 (hIj5.ms hb) rfl (ix_nI (by omega)) (by omega) (rows_at (by omega)) ?_
        refine P_aload_n d_CM_points_47 rfl ?_
        refine P_getf (i := 0) d_CM_points_48 ok_CM (by decide) L_CM_12 ((hFj5.2 _ (SC_f (by omega))).trans e0) rfl ?_
        refine P_getfN (i := 2) d_CM_points_51 ok_Plane (by decide) L_CM_163 ((hFj5.2 _ (SC_f (by omega))).trans eb) rfl ?_
        refine P_iload d_CM_points_54 rfl ?_
        refine P_aald (j := j5) (q := b + 19 + 1 + j5) d_CM_points_56 (hIj5.ps hb) rfl (ix_nI (by omega)) (by omega) (rows_at (by omega)) ?_
        refine P_iload_n d_CM_points_57 rfl ?_
        refine P_callV (M := M_CM_points) (pc := 58) (as := [.ref (b + 2 + 1 + a1N), .ref (b + 19 + 1 + j5), .int (nI a2N)]) (b := 0) d_CM_points_58 co_CM_isOfSort ok_CM ((hFj5.2 _ (SC_f (by omega))).trans e0) L_CM_320 im_CM_isOfSort se_CM_isOfSort (s_CM_isOfSort hG hIj5 (by omega) (Kc_m hb (by omega)) (by omega) (Kc_p hb (by omega)) (nI a2N) (by omega) (by omega)) rfl ⟨by decide, by decide⟩ ⟨by decide, by decide⟩ (by exact le_b rfl) ?_ _ rfl
        rintro _ w6 ⟨⟨v6, rfl⟩, hI6, hG6⟩
        have hF6 : Fr SC w w6 := Fr.tr hFj5 hG6
        show PW _ _ _ _ _ _ (61, [(0, .ref 0), (1, .int (nI a1N)), (2, .int (nI a2N)), (3, .int j5_3), (4, .int (nI j5))], [.int (bi v6)], w6)
        refine P_if_eq 67 d_CM_points_61 (by decide) (fun c7 => ?_) (fun c7 => ?_)
        · refine P_iinc (v := nI (j5 + 1)) d_CM_points_67 (by decide) rfl (nI_add j5 1) rfl ?_
          refine P_goto 25 d_CM_points_70 (by decide) ?_
          exact kkj5 (j5_3, w6) ⟨hI6, hF6⟩
        · refine P_iinc (v := j5_3 + Int32.ofInt 1) d_CM_points_64 (by decide) rfl rfl rfl ?_
          show PW _ _ _ _ _ _ (67, [(0, .ref 0), (1, .int (nI a1N)), (2, .int (nI a2N)), (3, .int (j5_3 + Int32.ofInt 1)), (4, .int (nI j5))], [], w6)
          refine P_iinc (v := nI (j5 + 1)) d_CM_points_67 (by decide) rfl (nI_add j5 1) rfl ?_
          refine P_goto 25 d_CM_points_70 (by decide) ?_
          exact kkj5 (j5_3 + Int32.ofInt 1, w6) ⟨hI6, hF6⟩
    · refine P_iconst (v := (-1)) d_CM_points_18 (by decide) ?_
      exact P_iret d_CM_points_19 rfl (le_b rfl) (le_b rfl) ⟨⟨_, rfl⟩, hI, Fr.rf⟩
theorem s_CM_join {G : pG} {w : pW} (hG : GO G) (hI : I w) (a1 : Int32) (a2 : Int32) (a3 : Int32) : PM G M_CM_join 4 0 0 [.ref 0, .int a1, .int a2, .int a3] w (fun r w' => (∃ v, r = some (.long v)) ∧ I w' ∧ Fr SC w w') := by
  refine PM_of pn_CM_join (le_b rfl) ?_
  show PW _ _ _ _ _ _ (0, [(0, .ref 0), (1, .int a1), (2, .int a2), (3, .int a3)], [], w)
  obtain ⟨b, hb, e0⟩ := hI.cm
  obtain ⟨hb1, hb2⟩ := pl_rng hb
  obtain ⟨lc, qc, mc, pc, eb, hlc, hqc, hmc, hpc⟩ := hI.pl hb
  refine P_aload_n d_CM_join_0 rfl ?_
  refine P_getf (i := 0) d_CM_join_1 ok_CM (by decide) L_CM_12 e0 rfl ?_
  refine P_iload_n d_CM_join_4 rfl ?_
  refine P_callV (M := M_CM_join) (pc := 5) (as := [.int a1]) (b := b) d_CM_join_5 co_Plane_hasPoint ok_Plane eb L_CM_160 im_Plane_hasPoint se_Plane_hasPoint (s_Plane_hasPoint eb hlc hqc hmc hpc a1) rfl ⟨by decide, by decide⟩ ⟨by decide, by decide⟩ (by exact le_b rfl) ?_ _ rfl
  rintro _ u ⟨rfl, eu⟩
  subst u
  show PW _ _ _ _ _ _ (8, [(0, .ref 0), (1, .int a1), (2, .int a2), (3, .int a3)], [.int (bi (inN pc a1))], w)
  refine P_if_eq 29 d_CM_join_8 (by decide) (fun c2 => ?_) (fun c2 => ?_)
  · refine P_ldc2 (v := (-9223372036854775808)) d_CM_join_29 L_CM_270 ?_
    exact P_lret d_CM_join_32 rfl (le_b rfl) (le_b rfl) ⟨⟨_, rfl⟩, hI, Fr.rf⟩
  · obtain ⟨a1N, ha1N, rfl⟩ := inN_of (bi_1 c2) (by omega)
    refine P_aload_n d_CM_join_11 rfl ?_
    refine P_getf (i := 0) d_CM_join_12 ok_CM (by decide) L_CM_12 e0 rfl ?_
    refine P_iload_n d_CM_join_15 rfl ?_
    refine P_callV (M := M_CM_join) (pc := 16) (as := [.int a2]) (b := b) d_CM_join_16 co_Plane_hasPoint ok_Plane eb L_CM_160 im_Plane_hasPoint se_Plane_hasPoint (s_Plane_hasPoint eb hlc hqc hmc hpc a2) rfl ⟨by decide, by decide⟩ ⟨by decide, by decide⟩ (by exact le_b rfl) ?_ _ rfl
    rintro _ u ⟨rfl, eu⟩
    subst u
    show PW _ _ _ _ _ _ (19, [(0, .ref 0), (1, .int (nI a1N)), (2, .int a2), (3, .int a3)], [.int (bi (inN pc a2))], w)
    refine P_if_eq 29 d_CM_join_19 (by decide) (fun c4 => ?_) (fun c4 => ?_)
    · refine P_ldc2 (v := (-9223372036854775808)) d_CM_join_29 L_CM_270 ?_
      exact P_lret d_CM_join_32 rfl (le_b rfl) (le_b rfl) ⟨⟨_, rfl⟩, hI, Fr.rf⟩
    · obtain ⟨a2N, ha2N, rfl⟩ := inN_of (bi_1 c4) (by omega)
      refine P_iload_n d_CM_join_22 rfl ?_
      refine P_callS (M := M_CM_join) (pc := 23) (as := [.int a3]) d_CM_join_23 co_CM_isThird L_CM_154 sm_CM_isThird (s_CM_isThird a3) rfl ⟨by decide, by decide⟩ ⟨by decide, by decide⟩ (by exact le_b rfl) ?_ _ rfl
      rintro _ u ⟨rfl, eu⟩
      subst u
      show PW _ _ _ _ _ _ (26, [(0, .ref 0), (1, .int (nI a1N)), (2, .int (nI a2N)), (3, .int a3)], [.int (bi (inN 3 a3))], w)
      refine P_if_ne 33 d_CM_join_26 (by decide) (fun c6 => ?_) (fun c6 => ?_)
      · obtain ⟨a3N, ha3N, rfl⟩ := inN_of (bi_1 c6) (by omega)
        refine P_aload_n d_CM_join_33 rfl ?_
        refine P_getf (i := 0) d_CM_join_34 ok_CM (by decide) L_CM_12 e0 rfl ?_
        refine P_getfN (i := 2) d_CM_join_37 ok_Plane (by decide) L_CM_163 eb rfl ?_
        refine P_iload_n d_CM_join_40 rfl ?_
        refine P_aald (j := a1N) (q := b + 19 + 1 + a1N) d_CM_join_41 (hI.ps hb) rfl (ix_nI (by omega)) (by omega) (rows_at (by omega)) ?_
        refine P_aload_n d_CM_join_42 rfl ?_
        refine P_getf (i := 0) d_CM_join_43 ok_CM (by decide) L_CM_12 e0 rfl ?_
        refine P_getfN (i := 2) d_CM_join_46 ok_Plane (by decide) L_CM_163 eb rfl ?_
        refine P_iload_n d_CM_join_49 rfl ?_
        refine P_aald (j := a2N) (q := b + 19 + 1 + a2N) d_CM_join_50 (hI.ps hb) rfl (ix_nI (by omega)) (by omega) (rows_at (by omega)) ?_
        refine P_aload_n d_CM_join_51 rfl ?_
        refine P_getf (i := 12) d_CM_join_52 ok_CM (by decide) L_CM_78 e0 rfl ?_
        obtain ⟨f7, f7e⟩ := hI.row (r := b + 19 + 1 + a1N) (by omega) (Kc_p hb (by omega))
        obtain ⟨f8, f8e⟩ := hI.row (r := b + 19 + 1 + a2N) (by omega) (Kc_p hb (by omega))
        obtain ⟨f9, f9e⟩ := hI.row (r := 453) (by decide) kc_453
        refine P_callS (M := M_CM_join) (pc := 55) (as := [.ref (b + 19 + 1 + a1N), .ref (b + 19 + 1 + a2N), .ref 453]) d_CM_join_55 co_Rows_through L_CM_324 sm_Rows_through (s_Rows_through f7e f8e f9e (by decide) (by omega) (by omega)) rfl ⟨by decide, by decide⟩ ⟨by decide, by decide⟩ (by exact le_b rfl) ?_ _ rfl
        rintro _ w10 ⟨⟨v10, rfl⟩, g10, e10⟩
        have s10 := w_s e10
        have hI10 : I w10 := hI.setL e10 kc_453
        have hF10 : Fr SC w w10 := Fr.set Fr.rf e10 (SC_t (by omega))
        show PW _ _ _ _ _ _ (58, [(0, .ref 0), (1, .int (nI a1N)), (2, .int (nI a2N)), (3, .int (nI a3N))], [.int (bi v10)], w10)
        refine P_if_ne 65 d_CM_join_58 (by decide) (fun c11 => ?_) (fun c11 => ?_)
        · refine P_aload_n d_CM_join_65 rfl ?_
          refine P_getf (i := 12) d_CM_join_66 ok_CM (by decide) L_CM_78 ((hF10.2 _ (SC_f (by omega))).trans e0) rfl ?_
          refine P_iload_n d_CM_join_69 rfl ?_
          refine P_lald (j := a3N) d_CM_join_70 s10 (ix_nI (by omega)) (by omega) ?_
          exact P_lret d_CM_join_71 rfl (le_b rfl) (le_b rfl) ⟨⟨_, rfl⟩, hI10, hF10⟩
        · refine P_ldc2 (v := (-100000000000)) d_CM_join_61 L_CM_275 ?_
          exact P_lret d_CM_join_64 rfl (le_b rfl) (le_b rfl) ⟨⟨_, rfl⟩, hI10, hF10⟩
      · refine P_ldc2 (v := (-9223372036854775808)) d_CM_join_29 L_CM_270 ?_
        exact P_lret d_CM_join_32 rfl (le_b rfl) (le_b rfl) ⟨⟨_, rfl⟩, hI, Fr.rf⟩
theorem s_CM_inLine {G : pG} {w : pW} (hG : GO G) (hI : I w) (a1 : Int32) (a2 : Int32) (a3 : Int32) : PM G M_CM_inLine 2 0 0 [.ref 0, .int a1, .int a2, .int a3] w (fun r w' => (∃ v, r = some (.int v)) ∧ I w' ∧ Fr SC w w') := by
  refine PM_of pn_CM_inLine (le_b rfl) ?_
  show PW _ _ _ _ _ _ (0, [(0, .ref 0), (1, .int a1), (2, .int a2), (3, .int a3)], [], w)
  obtain ⟨b, hb, e0⟩ := hI.cm
  obtain ⟨hb1, hb2⟩ := pl_rng hb
  obtain ⟨lc, qc, mc, pc, eb, hlc, hqc, hmc, hpc⟩ := hI.pl hb
  refine P_aload_n d_CM_inLine_0 rfl ?_
  refine P_getf (i := 0) d_CM_inLine_1 ok_CM (by decide) L_CM_12 e0 rfl ?_
  refine P_iload_n d_CM_inLine_4 rfl ?_
  refine P_callV (M := M_CM_inLine) (pc := 5) (as := [.int a1]) (b := b) d_CM_inLine_5 co_Plane_hasPoint ok_Plane eb L_CM_160 im_Plane_hasPoint se_Plane_hasPoint (s_Plane_hasPoint eb hlc hqc hmc hpc a1) rfl ⟨by decide, by decide⟩ ⟨by decide, by decide⟩ (by exact le_b rfl) ?_ _ rfl
  rintro _ u ⟨rfl, eu⟩
  subst u
  show PW _ _ _ _ _ _ (8, [(0, .ref 0), (1, .int a1), (2, .int a2), (3, .int a3)], [.int (bi (inN pc a1))], w)
  refine P_if_eq 33 d_CM_inLine_8 (by decide) (fun c2 => ?_) (fun c2 => ?_)
  · refine P_iconst (v := (-1)) d_CM_inLine_33 (by decide) ?_
    exact P_iret d_CM_inLine_34 rfl (le_b rfl) (le_b rfl) ⟨⟨_, rfl⟩, hI, Fr.rf⟩
  · obtain ⟨a1N, ha1N, rfl⟩ := inN_of (bi_1 c2) (by omega)
    refine P_aload_n d_CM_inLine_11 rfl ?_
    refine P_getf (i := 0) d_CM_inLine_12 ok_CM (by decide) L_CM_12 e0 rfl ?_
    refine P_iload_n d_CM_inLine_15 rfl ?_
    refine P_callV (M := M_CM_inLine) (pc := 16) (as := [.int a2]) (b := b) d_CM_inLine_16 co_Plane_hasPoint ok_Plane eb L_CM_160 im_Plane_hasPoint se_Plane_hasPoint (s_Plane_hasPoint eb hlc hqc hmc hpc a2) rfl ⟨by decide, by decide⟩ ⟨by decide, by decide⟩ (by exact le_b rfl) ?_ _ rfl
    rintro _ u ⟨rfl, eu⟩
    subst u
    show PW _ _ _ _ _ _ (19, [(0, .ref 0), (1, .int (nI a1N)), (2, .int a2), (3, .int a3)], [.int (bi (inN pc a2))], w)
    refine P_if_eq 33 d_CM_inLine_19 (by decide) (fun c4 => ?_) (fun c4 => ?_)
    · refine P_iconst (v := (-1)) d_CM_inLine_33 (by decide) ?_
      exact P_iret d_CM_inLine_34 rfl (le_b rfl) (le_b rfl) ⟨⟨_, rfl⟩, hI, Fr.rf⟩
    · obtain ⟨a2N, ha2N, rfl⟩ := inN_of (bi_1 c4) (by omega)
      refine P_aload_n d_CM_inLine_22 rfl ?_
      refine P_getf (i := 0) d_CM_inLine_23 ok_CM (by decide) L_CM_12 e0 rfl ?_
      refine P_iload_n d_CM_inLine_26 rfl ?_
      refine P_callV (M := M_CM_inLine) (pc := 27) (as := [.int a3]) (b := b) d_CM_inLine_27 co_Plane_hasPoint ok_Plane eb L_CM_160 im_Plane_hasPoint se_Plane_hasPoint (s_Plane_hasPoint eb hlc hqc hmc hpc a3) rfl ⟨by decide, by decide⟩ ⟨by decide, by decide⟩ (by exact le_b rfl) ?_ _ rfl
      rintro _ u ⟨rfl, eu⟩
      subst u
      show PW _ _ _ _ _ _ (30, [(0, .ref 0), (1, .int (nI a1N)), (2, .int (nI a2N)), (3, .int a3)], [.int (bi (inN pc a3))], w)
      refine P_if_ne 35 d_CM_inLine_30 (by decide) (fun c6 => ?_) (fun c6 => ?_)
      · obtain ⟨a3N, ha3N, rfl⟩ := inN_of (bi_1 c6) (by omega)
        refine P_aload_n d_CM_inLine_35 rfl ?_
        refine P_iload_n d_CM_inLine_36 rfl ?_
        refine P_iload_n d_CM_inLine_37 rfl ?_
        refine P_iload_n d_CM_inLine_38 rfl ?_
        refine P_callV (M := M_CM_inLine) (pc := 39) (as := [.int (nI a1N), .int (nI a2N), .int (nI a3N)]) (b := 0) d_CM_inLine_39 co_CM_areInLine ok_CM e0 L_CM_327 im_CM_areInLine se_CM_areInLine (s_CM_areInLine hG hI a1N (by omega) a2N (by omega) a3N (by omega)) rfl ⟨by decide, by decide⟩ ⟨by decide, by decide⟩ (by exact le_b rfl) ?_ _ rfl
        rintro _ w7 ⟨⟨v7, rfl⟩, hI7, hG7⟩
        have hF7 : Fr SC w w7 := Fr.tr Fr.rf hG7
        show PW _ _ _ _ _ _ (42, [(0, .ref 0), (1, .int (nI a1N)), (2, .int (nI a2N)), (3, .int (nI a3N))], [.int (bi v7)], w7)
        refine P_callS (M := M_CM_inLine) (pc := 42) (as := [.int (bi v7)]) d_CM_inLine_42 co_CM_bit L_CM_290 sm_CM_bit (s_CM_bit (bi v7)) rfl ⟨by decide, by decide⟩ ⟨by decide, by decide⟩ (by exact le_b rfl) ?_ _ rfl
        rintro _ u ⟨⟨v8, rfl⟩, eu⟩
        subst u
        show PW _ _ _ _ _ _ (45, [(0, .ref 0), (1, .int (nI a1N)), (2, .int (nI a2N)), (3, .int (nI a3N))], [.int v8], w7)
        exact P_iret d_CM_inLine_45 rfl (le_b rfl) (le_b rfl) ⟨⟨_, rfl⟩, hI7, hF7⟩
      · refine P_iconst (v := (-1)) d_CM_inLine_33 (by decide) ?_
        exact P_iret d_CM_inLine_34 rfl (le_b rfl) (le_b rfl) ⟨⟨_, rfl⟩, hI, Fr.rf⟩
theorem s_CM_meet {G : pG} {w : pW} (hG : GO G) (hI : I w) (a1 : Int32) (a2 : Int32) (a3 : Int32) (a4 : Int32) (a5 : Int32) : PM G M_CM_meet 4 0 0 [.ref 0, .int a1, .int a2, .int a3, .int a4, .int a5] w (fun r w' => (∃ v, r = some (.long v)) ∧ I w' ∧ Fr SC w w') := by
  refine PM_of pn_CM_meet (le_b rfl) ?_
  show PW _ _ _ _ _ _ (0, [(0, .ref 0), (1, .int a1), (2, .int a2), (3, .int a3), (4, .int a4), (5, .int a5)], [], w)
  obtain ⟨b, hb, e0⟩ := hI.cm
  obtain ⟨hb1, hb2⟩ := pl_rng hb
  obtain ⟨lc, qc, mc, pc, eb, hlc, hqc, hmc, hpc⟩ := hI.pl hb
  refine P_aload_n d_CM_meet_0 rfl ?_
  refine P_iload_n d_CM_meet_1 rfl ?_
  refine P_iload_n d_CM_meet_2 rfl ?_
  refine P_iload_n d_CM_meet_3 rfl ?_
  refine P_iload d_CM_meet_4 rfl ?_
  refine P_callV (M := M_CM_meet) (pc := 6) (as := [.int a1, .int a2, .int a3, .int a4]) (b := 0) d_CM_meet_6 co_CM_arePoints ok_CM e0 L_CM_330 im_CM_arePoints se_CM_arePoints (s_CM_arePoints e0 eb hlc hqc hmc hpc a1 a2 a3 a4) rfl ⟨by decide, by decide⟩ ⟨by decide, by decide⟩ (by exact le_b rfl) ?_ _ rfl
  rintro _ u ⟨rfl, eu⟩
  subst u
  show PW _ _ _ _ _ _ (9, [(0, .ref 0), (1, .int a1), (2, .int a2), (3, .int a3), (4, .int a4), (5, .int a5)], [.int (bi (inN pc a1 && inN pc a2 && inN pc a3 && inN pc a4))], w)
  refine P_if_eq 20 d_CM_meet_9 (by decide) (fun c2 => ?_) (fun c2 => ?_)
  · refine P_ldc2 (v := (-9223372036854775808)) d_CM_meet_20 L_CM_270 ?_
    exact P_lret d_CM_meet_23 rfl (le_b rfl) (le_b rfl) ⟨⟨_, rfl⟩, hI, Fr.rf⟩
  · have ac2 := bi_1 c2
    simp only [Bool.and_eq_true] at ac2
    obtain ⟨⟨⟨ac2_0, ac2_1⟩, ac2_2⟩, ac2_3⟩ := ac2
    obtain ⟨a1N, ha1N, rfl⟩ := inN_of ac2_0 (by omega)
    obtain ⟨a2N, ha2N, rfl⟩ := inN_of ac2_1 (by omega)
    obtain ⟨a3N, ha3N, rfl⟩ := inN_of ac2_2 (by omega)
    obtain ⟨a4N, ha4N, rfl⟩ := inN_of ac2_3 (by omega)
    refine P_iload d_CM_meet_12 rfl ?_
    refine P_callS (M := M_CM_meet) (pc := 14) (as := [.int a5]) d_CM_meet_14 co_CM_isThird L_CM_154 sm_CM_isThird (s_CM_isThird a5) rfl ⟨by decide, by decide⟩ ⟨by decide, by decide⟩ (by exact le_b rfl) ?_ _ rfl
    rintro _ u ⟨rfl, eu⟩
    subst u
    show PW _ _ _ _ _ _ (17, [(0, .ref 0), (1, .int (nI a1N)), (2, .int (nI a2N)), (3, .int (nI a3N)), (4, .int (nI a4N)), (5, .int a5)], [.int (bi (inN 3 a5))], w)
    refine P_if_ne 24 d_CM_meet_17 (by decide) (fun c4 => ?_) (fun c4 => ?_)
    · obtain ⟨a5N, ha5N, rfl⟩ := inN_of (bi_1 c4) (by omega)
      refine P_aload_n d_CM_meet_24 rfl ?_
      refine P_getf (i := 0) d_CM_meet_25 ok_CM (by decide) L_CM_12 e0 rfl ?_
      refine P_getfN (i := 2) d_CM_meet_28 ok_Plane (by decide) L_CM_163 eb rfl ?_
      refine P_iload_n d_CM_meet_31 rfl ?_
      refine P_aald (j := a1N) (q := b + 19 + 1 + a1N) d_CM_meet_32 (hI.ps hb) rfl (ix_nI (by omega)) (by omega) (rows_at (by omega)) ?_
      refine P_aload_n d_CM_meet_33 rfl ?_
      refine P_getf (i := 0) d_CM_meet_34 ok_CM (by decide) L_CM_12 e0 rfl ?_
      refine P_getfN (i := 2) d_CM_meet_37 ok_Plane (by decide) L_CM_163 eb rfl ?_
      refine P_iload_n d_CM_meet_40 rfl ?_
      refine P_aald (j := a2N) (q := b + 19 + 1 + a2N) d_CM_meet_41 (hI.ps hb) rfl (ix_nI (by omega)) (by omega) (rows_at (by omega)) ?_
      refine P_aload_n d_CM_meet_42 rfl ?_
      refine P_getf (i := 14) d_CM_meet_43 ok_CM (by decide) L_CM_84 e0 rfl ?_
      obtain ⟨f5, f5e⟩ := hI.row (r := b + 19 + 1 + a1N) (by omega) (Kc_p hb (by omega))
      obtain ⟨f6, f6e⟩ := hI.row (r := b + 19 + 1 + a2N) (by omega) (Kc_p hb (by omega))
      obtain ⟨f7, f7e⟩ := hI.row (r := 455) (by decide) kc_455
      refine P_callS (M := M_CM_meet) (pc := 46) (as := [.ref (b + 19 + 1 + a1N), .ref (b + 19 + 1 + a2N), .ref 455]) d_CM_meet_46 co_Rows_through L_CM_324 sm_Rows_through (s_Rows_through f5e f6e f7e (by decide) (by omega) (by omega)) rfl ⟨by decide, by decide⟩ ⟨by decide, by decide⟩ (by exact le_b rfl) ?_ _ rfl
      rintro _ w8 ⟨⟨v8, rfl⟩, g8, e8⟩
      have s8 := w_s e8
      have hI8 : I w8 := hI.setL e8 kc_455
      have hF8 : Fr SC w w8 := Fr.set Fr.rf e8 (SC_t (by omega))
      show PW _ _ _ _ _ _ (49, [(0, .ref 0), (1, .int (nI a1N)), (2, .int (nI a2N)), (3, .int (nI a3N)), (4, .int (nI a4N)), (5, .int (nI a5N))], [.int (bi v8)], w8)
      refine P_if_eq 103 d_CM_meet_49 (by decide) (fun c9 => ?_) (fun c9 => ?_)
      · refine P_iconst (v := 0) d_CM_meet_103 (by decide) ?_
        refine P_istore d_CM_meet_104 (by decide) rfl ?_
        refine P_iload d_CM_meet_106 rfl ?_
        refine P_if_eq 121 d_CM_meet_108 (by decide) (fun _ => ?_) (fun h => absurd (by decide) h)
        refine P_ldc2 (v := (-100000000000)) d_CM_meet_121 L_CM_275 ?_
        exact P_lret d_CM_meet_124 rfl (le_b rfl) (le_b rfl) ⟨⟨_, rfl⟩, hI8, hF8⟩
      · refine P_aload_n d_CM_meet_52 rfl ?_
        refine P_getf (i := 0) d_CM_meet_53 ok_CM (by decide) L_CM_12 ((hF8.2 _ (SC_f (by omega))).trans e0) rfl ?_
        refine P_getfN (i := 2) d_CM_meet_56 ok_Plane (by decide) L_CM_163 ((hF8.2 _ (SC_f (by omega))).trans eb) rfl ?_
        refine P_iload_n d_CM_meet_59 rfl ?_
        refine P_aald (j := a3N) (q := b + 19 + 1 + a3N) d_CM_meet_60 (hI8.ps hb) rfl (ix_nI (by omega)) (by omega) (rows_at (by omega)) ?_
        refine P_aload_n d_CM_meet_61 rfl ?_
        refine P_getf (i := 0) d_CM_meet_62 ok_CM (by decide) L_CM_12 ((hF8.2 _ (SC_f (by omega))).trans e0) rfl ?_
        refine P_getfN (i := 2) d_CM_meet_65 ok_Plane (by decide) L_CM_163 ((hF8.2 _ (SC_f (by omega))).trans eb) rfl ?_
        refine P_iload d_CM_meet_68 rfl ?_
        refine P_aald (j := a4N) (q := b + 19 + 1 + a4N) d_CM_meet_70 (hI8.ps hb) rfl (ix_nI (by omega)) (by omega) (rows_at (by omega)) ?_
        refine P_aload_n d_CM_meet_71 rfl ?_
        refine P_getf (i := 15) d_CM_meet_72 ok_CM (by decide) L_CM_87 ((hF8.2 _ (SC_f (by omega))).trans e0) rfl ?_
        obtain ⟨f10, f10e⟩ := hI8.row (r := b + 19 + 1 + a3N) (by omega) (Kc_p hb (by omega))
        obtain ⟨f11, f11e⟩ := hI8.row (r := b + 19 + 1 + a4N) (by omega) (Kc_p hb (by omega))
        obtain ⟨f12, f12e⟩ := hI8.row (r := 456) (by decide) kc_456
        refine P_callS (M := M_CM_meet) (pc := 75) (as := [.ref (b + 19 + 1 + a3N), .ref (b + 19 + 1 + a4N), .ref 456]) d_CM_meet_75 co_Rows_through L_CM_324 sm_Rows_through (s_Rows_through f10e f11e f12e (by decide) (by omega) (by omega)) rfl ⟨by decide, by decide⟩ ⟨by decide, by decide⟩ (by exact le_b rfl) ?_ _ rfl
        rintro _ w13 ⟨⟨v13, rfl⟩, g13, e13⟩
        have s13 := w_s e13
        have hI13 : I w13 := hI8.setL e13 kc_456
        have hF13 : Fr SC w w13 := Fr.set hF8 e13 (SC_t (by omega))
        show PW _ _ _ _ _ _ (78, [(0, .ref 0), (1, .int (nI a1N)), (2, .int (nI a2N)), (3, .int (nI a3N)), (4, .int (nI a4N)), (5, .int (nI a5N))], [.int (bi v13)], w13)
        refine P_if_eq 103 d_CM_meet_78 (by decide) (fun c14 => ?_) (fun c14 => ?_)
        · refine P_iconst (v := 0) d_CM_meet_103 (by decide) ?_
          refine P_istore d_CM_meet_104 (by decide) rfl ?_
          refine P_iload d_CM_meet_106 rfl ?_
          refine P_if_eq 121 d_CM_meet_108 (by decide) (fun _ => ?_) (fun h => absurd (by decide) h)
          refine P_ldc2 (v := (-100000000000)) d_CM_meet_121 L_CM_275 ?_
          exact P_lret d_CM_meet_124 rfl (le_b rfl) (le_b rfl) ⟨⟨_, rfl⟩, hI13, hF13⟩
        · refine P_aload_n d_CM_meet_81 rfl ?_
          refine P_getf (i := 14) d_CM_meet_82 ok_CM (by decide) L_CM_84 ((hF13.2 _ (SC_f (by omega))).trans e0) rfl ?_
          refine P_aload_n d_CM_meet_85 rfl ?_
          refine P_getf (i := 15) d_CM_meet_86 ok_CM (by decide) L_CM_87 ((hF13.2 _ (SC_f (by omega))).trans e0) rfl ?_
          refine P_aload_n d_CM_meet_89 rfl ?_
          refine P_getf (i := 12) d_CM_meet_90 ok_CM (by decide) L_CM_78 ((hF13.2 _ (SC_f (by omega))).trans e0) rfl ?_
          obtain ⟨f15, f15e⟩ := hI13.row (r := 455) (by decide) kc_455
          obtain ⟨f16, f16e⟩ := hI13.row (r := 453) (by decide) kc_453
          refine P_callS (M := M_CM_meet) (pc := 93) (as := [.ref 455, .ref 456, .ref 453]) d_CM_meet_93 co_Rows_through L_CM_324 sm_Rows_through (s_Rows_through f15e s13 f16e (by decide) (by decide) (by decide)) rfl ⟨by decide, by decide⟩ ⟨by decide, by decide⟩ (by exact le_b rfl) ?_ _ rfl
          rintro _ w17 ⟨⟨v17, rfl⟩, g17, e17⟩
          have s17 := w_s e17
          have hI17 : I w17 := hI13.setL e17 kc_453
          have hF17 : Fr SC w w17 := Fr.set hF13 e17 (SC_t (by omega))
          show PW _ _ _ _ _ _ (96, [(0, .ref 0), (1, .int (nI a1N)), (2, .int (nI a2N)), (3, .int (nI a3N)), (4, .int (nI a4N)), (5, .int (nI a5N))], [.int (bi v17)], w17)
          refine P_if_eq 103 d_CM_meet_96 (by decide) (fun c18 => ?_) (fun c18 => ?_)
          · refine P_iconst (v := 0) d_CM_meet_103 (by decide) ?_
            refine P_istore d_CM_meet_104 (by decide) rfl ?_
            refine P_iload d_CM_meet_106 rfl ?_
            refine P_if_eq 121 d_CM_meet_108 (by decide) (fun _ => ?_) (fun h => absurd (by decide) h)
            refine P_ldc2 (v := (-100000000000)) d_CM_meet_121 L_CM_275 ?_
            exact P_lret d_CM_meet_124 rfl (le_b rfl) (le_b rfl) ⟨⟨_, rfl⟩, hI17, hF17⟩
          · refine P_iconst (v := 1) d_CM_meet_99 (by decide) ?_
            refine P_goto 104 d_CM_meet_100 (by decide) ?_
            refine P_istore d_CM_meet_104 (by decide) rfl ?_
            refine P_iload d_CM_meet_106 rfl ?_
            refine P_if_eq 121 d_CM_meet_108 (by decide) (fun h => absurd h (by decide)) (fun _ => ?_)
            refine P_aload_n d_CM_meet_111 rfl ?_
            refine P_getf (i := 12) d_CM_meet_112 ok_CM (by decide) L_CM_78 ((hF17.2 _ (SC_f (by omega))).trans e0) rfl ?_
            refine P_iload d_CM_meet_115 rfl ?_
            refine P_lald (j := a5N) d_CM_meet_117 s17 (ix_nI (by omega)) (by omega) ?_
            refine P_goto 124 d_CM_meet_118 (by decide) ?_
            exact P_lret d_CM_meet_124 rfl (le_b rfl) (le_b rfl) ⟨⟨_, rfl⟩, hI17, hF17⟩
    · refine P_ldc2 (v := (-9223372036854775808)) d_CM_meet_20 L_CM_270 ?_
      exact P_lret d_CM_meet_23 rfl (le_b rfl) (le_b rfl) ⟨⟨_, rfl⟩, hI, Fr.rf⟩
theorem s_CM_share {G : pG} {w : pW} (hG : GO G) (hI : I w) (a1 : Int32) (a2 : Int32) (a3 : Int32) (a4 : Int32) (a5 : Int32) : PM G M_CM_share 5 0 0 [.ref 0, .int a1, .int a2, .int a3, .int a4, .int a5] w (fun r w' => (∃ v, r = some (.long v)) ∧ I w' ∧ Fr SC w w') := by
  refine PM_of pn_CM_share (le_b rfl) ?_
  show PW _ _ _ _ _ _ (0, [(0, .ref 0), (1, .int a1), (2, .int a2), (3, .int a3), (4, .int a4), (5, .int a5)], [], w)
  obtain ⟨b, hb, e0⟩ := hI.cm
  obtain ⟨hb1, hb2⟩ := pl_rng hb
  obtain ⟨lc, qc, mc, pc, eb, hlc, hqc, hmc, hpc⟩ := hI.pl hb
  refine P_aload_n d_CM_share_0 rfl ?_
  refine P_iload_n d_CM_share_1 rfl ?_
  refine P_iload_n d_CM_share_2 rfl ?_
  refine P_iload_n d_CM_share_3 rfl ?_
  refine P_iload d_CM_share_4 rfl ?_
  refine P_callV (M := M_CM_share) (pc := 6) (as := [.int a1, .int a2, .int a3, .int a4]) (b := 0) d_CM_share_6 co_CM_arePoints ok_CM e0 L_CM_330 im_CM_arePoints se_CM_arePoints (s_CM_arePoints e0 eb hlc hqc hmc hpc a1 a2 a3 a4) rfl ⟨by decide, by decide⟩ ⟨by decide, by decide⟩ (by exact le_b rfl) ?_ _ rfl
  rintro _ u ⟨rfl, eu⟩
  subst u
  show PW _ _ _ _ _ _ (9, [(0, .ref 0), (1, .int a1), (2, .int a2), (3, .int a3), (4, .int a4), (5, .int a5)], [.int (bi (inN pc a1 && inN pc a2 && inN pc a3 && inN pc a4))], w)
  refine P_if_eq 20 d_CM_share_9 (by decide) (fun c2 => ?_) (fun c2 => ?_)
  · refine P_ldc2 (v := (-9223372036854775808)) d_CM_share_20 L_CM_270 ?_
    exact P_lret d_CM_share_23 rfl (le_b rfl) (le_b rfl) ⟨⟨_, rfl⟩, hI, Fr.rf⟩
  · have ac2 := bi_1 c2
    simp only [Bool.and_eq_true] at ac2
    obtain ⟨⟨⟨ac2_0, ac2_1⟩, ac2_2⟩, ac2_3⟩ := ac2
    obtain ⟨a1N, ha1N, rfl⟩ := inN_of ac2_0 (by omega)
    obtain ⟨a2N, ha2N, rfl⟩ := inN_of ac2_1 (by omega)
    obtain ⟨a3N, ha3N, rfl⟩ := inN_of ac2_2 (by omega)
    obtain ⟨a4N, ha4N, rfl⟩ := inN_of ac2_3 (by omega)
    refine P_iload d_CM_share_12 rfl ?_
    refine P_callS (M := M_CM_share) (pc := 14) (as := [.int a5]) d_CM_share_14 co_CM_isPart L_CM_136 sm_CM_isPart (s_CM_isPart a5) rfl ⟨by decide, by decide⟩ ⟨by decide, by decide⟩ (by exact le_b rfl) ?_ _ rfl
    rintro _ u ⟨rfl, eu⟩
    subst u
    show PW _ _ _ _ _ _ (17, [(0, .ref 0), (1, .int (nI a1N)), (2, .int (nI a2N)), (3, .int (nI a3N)), (4, .int (nI a4N)), (5, .int a5)], [.int (bi (inN 2 a5))], w)
    refine P_if_ne 24 d_CM_share_17 (by decide) (fun c4 => ?_) (fun c4 => ?_)
    · obtain ⟨a5N, ha5N, rfl⟩ := inN_of (bi_1 c4) (by omega)
      refine P_aload_n d_CM_share_24 rfl ?_
      refine P_iload_n d_CM_share_25 rfl ?_
      refine P_iload_n d_CM_share_26 rfl ?_
      refine P_iload_n d_CM_share_27 rfl ?_
      refine P_iload d_CM_share_28 rfl ?_
      refine P_callV (M := M_CM_share) (pc := 30) (as := [.int (nI a1N), .int (nI a2N), .int (nI a3N), .int (nI a4N)]) (b := 0) d_CM_share_30 co_CM_hasThreeAlike ok_CM e0 L_CM_334 im_CM_hasThreeAlike se_CM_hasThreeAlike (s_CM_hasThreeAlike hG hI a1N (by omega) a2N (by omega) a3N (by omega) a4N (by omega)) rfl ⟨by decide, by decide⟩ ⟨by decide, by decide⟩ (by exact le_b rfl) ?_ _ rfl
      rintro _ w5 ⟨⟨v5, rfl⟩, hI5, hG5⟩
      have hF5 : Fr SC w w5 := Fr.tr Fr.rf hG5
      show PW _ _ _ _ _ _ (33, [(0, .ref 0), (1, .int (nI a1N)), (2, .int (nI a2N)), (3, .int (nI a3N)), (4, .int (nI a4N)), (5, .int (nI a5N))], [.int (bi v5)], w5)
      refine P_if_ne 68 d_CM_share_33 (by decide) (fun c6 => ?_) (fun c6 => ?_)
      · refine P_ldc2 (v := (-100000000000)) d_CM_share_68 L_CM_275 ?_
        exact P_lret d_CM_share_71 rfl (le_b rfl) (le_b rfl) ⟨⟨_, rfl⟩, hI5, hF5⟩
      · refine P_aload_n d_CM_share_36 rfl ?_
        refine P_iload_n d_CM_share_37 rfl ?_
        refine P_iload_n d_CM_share_38 rfl ?_
        refine P_iload_n d_CM_share_39 rfl ?_
        refine P_callV (M := M_CM_share) (pc := 40) (as := [.int (nI a1N), .int (nI a2N), .int (nI a3N)]) (b := 0) d_CM_share_40 co_CM_areInLine ok_CM ((hF5.2 _ (SC_f (by omega))).trans e0) L_CM_327 im_CM_areInLine se_CM_areInLine (s_CM_areInLine hG hI5 a1N (by omega) a2N (by omega) a3N (by omega)) rfl ⟨by decide, by decide⟩ ⟨by decide, by decide⟩ (by exact le_b rfl) ?_ _ rfl
        rintro _ w7 ⟨⟨v7, rfl⟩, hI7, hG7⟩
        have hF7 : Fr SC w w7 := Fr.tr hF5 hG7
        show PW _ _ _ _ _ _ (43, [(0, .ref 0), (1, .int (nI a1N)), (2, .int (nI a2N)), (3, .int (nI a3N)), (4, .int (nI a4N)), (5, .int (nI a5N))], [.int (bi v7)], w7)
        refine P_if_eq 68 d_CM_share_43 (by decide) (fun c8 => ?_) (fun c8 => ?_)
        · refine P_ldc2 (v := (-100000000000)) d_CM_share_68 L_CM_275 ?_
          exact P_lret d_CM_share_71 rfl (le_b rfl) (le_b rfl) ⟨⟨_, rfl⟩, hI7, hF7⟩
        · refine P_aload_n d_CM_share_46 rfl ?_
          refine P_iload_n d_CM_share_47 rfl ?_
          refine P_iload_n d_CM_share_48 rfl ?_
          refine P_iload d_CM_share_49 rfl ?_
          refine P_callV (M := M_CM_share) (pc := 51) (as := [.int (nI a1N), .int (nI a2N), .int (nI a4N)]) (b := 0) d_CM_share_51 co_CM_areInLine ok_CM ((hF7.2 _ (SC_f (by omega))).trans e0) L_CM_327 im_CM_areInLine se_CM_areInLine (s_CM_areInLine hG hI7 a1N (by omega) a2N (by omega) a4N (by omega)) rfl ⟨by decide, by decide⟩ ⟨by decide, by decide⟩ (by exact le_b rfl) ?_ _ rfl
          rintro _ w9 ⟨⟨v9, rfl⟩, hI9, hG9⟩
          have hF9 : Fr SC w w9 := Fr.tr hF7 hG9
          show PW _ _ _ _ _ _ (54, [(0, .ref 0), (1, .int (nI a1N)), (2, .int (nI a2N)), (3, .int (nI a3N)), (4, .int (nI a4N)), (5, .int (nI a5N))], [.int (bi v9)], w9)
          refine P_if_eq 68 d_CM_share_54 (by decide) (fun c10 => ?_) (fun c10 => ?_)
          · refine P_ldc2 (v := (-100000000000)) d_CM_share_68 L_CM_275 ?_
            exact P_lret d_CM_share_71 rfl (le_b rfl) (le_b rfl) ⟨⟨_, rfl⟩, hI9, hF9⟩
          · refine P_aload_n d_CM_share_57 rfl ?_
            refine P_iload_n d_CM_share_58 rfl ?_
            refine P_iload_n d_CM_share_59 rfl ?_
            refine P_iload d_CM_share_60 rfl ?_
            refine P_callV (M := M_CM_share) (pc := 62) (as := [.int (nI a2N), .int (nI a3N), .int (nI a4N)]) (b := 0) d_CM_share_62 co_CM_areInLine ok_CM ((hF9.2 _ (SC_f (by omega))).trans e0) L_CM_327 im_CM_areInLine se_CM_areInLine (s_CM_areInLine hG hI9 a2N (by omega) a3N (by omega) a4N (by omega)) rfl ⟨by decide, by decide⟩ ⟨by decide, by decide⟩ (by exact le_b rfl) ?_ _ rfl
            rintro _ w11 ⟨⟨v11, rfl⟩, hI11, hG11⟩
            have hF11 : Fr SC w w11 := Fr.tr hF9 hG11
            show PW _ _ _ _ _ _ (65, [(0, .ref 0), (1, .int (nI a1N)), (2, .int (nI a2N)), (3, .int (nI a3N)), (4, .int (nI a4N)), (5, .int (nI a5N))], [.int (bi v11)], w11)
            refine P_if_ne 72 d_CM_share_65 (by decide) (fun c12 => ?_) (fun c12 => ?_)
            · refine P_aload_n d_CM_share_72 rfl ?_
              refine P_iload_n d_CM_share_73 rfl ?_
              refine P_iload_n d_CM_share_74 rfl ?_
              refine P_iload_n d_CM_share_75 rfl ?_
              refine P_callV (M := M_CM_share) (pc := 76) (as := [.int (nI a1N), .int (nI a2N), .int (nI a3N)]) (b := 0) d_CM_share_76 co_CM_axisOutside ok_CM ((hF11.2 _ (SC_f (by omega))).trans e0) L_CM_337 im_CM_axisOutside se_CM_axisOutside (s_CM_axisOutside hG hI11 a1N (by omega) a2N (by omega) a3N (by omega)) rfl ⟨by decide, by decide⟩ ⟨by decide, by decide⟩ (by exact le_b rfl) ?_ _ rfl
              rintro _ w13 ⟨⟨v13, hv13, rfl⟩, hI13, hG13⟩
              have hF13 : Fr SC w w13 := Fr.tr hF11 hG13
              show PW _ _ _ _ _ _ (79, [(0, .ref 0), (1, .int (nI a1N)), (2, .int (nI a2N)), (3, .int (nI a3N)), (4, .int (nI a4N)), (5, .int (nI a5N))], [.int (nI v13)], w13)
              refine P_istore d_CM_share_79 (by decide) rfl ?_
              refine P_aload_n d_CM_share_81 rfl ?_
              refine P_iload d_CM_share_82 rfl ?_
              refine P_iload_n d_CM_share_84 rfl ?_
              refine P_iload_n d_CM_share_85 rfl ?_
              refine P_callV (M := M_CM_share) (pc := 86) (as := [.int (nI v13), .int (nI a1N), .int (nI a3N)]) (b := 0) d_CM_share_86 co_CM_span ok_CM ((hF13.2 _ (SC_f (by omega))).trans e0) L_CM_341 im_CM_span se_CM_span (s_CM_span hG hI13 v13 (by omega) a1N (by omega) a3N (by omega)) rfl ⟨by decide, by decide⟩ ⟨by decide, by decide⟩ (by exact le_b rfl) ?_ _ rfl
              rintro _ w14 ⟨⟨v14, rfl⟩, hI14, hG14⟩
              have hF14 : Fr SC w w14 := Fr.tr hF13 hG14
              show PW _ _ _ _ _ _ (89, [(0, .ref 0), (1, .int (nI a1N)), (2, .int (nI a2N)), (3, .int (nI a3N)), (4, .int (nI a4N)), (5, .int (nI a5N)), (6, .int (nI v13))], [.long v14], w14)
              refine P_aload_n d_CM_share_89 rfl ?_
              refine P_iload d_CM_share_90 rfl ?_
              refine P_iload_n d_CM_share_92 rfl ?_
              refine P_iload d_CM_share_93 rfl ?_
              refine P_callV (M := M_CM_share) (pc := 95) (as := [.int (nI v13), .int (nI a2N), .int (nI a4N)]) (b := 0) d_CM_share_95 co_CM_span ok_CM ((hF14.2 _ (SC_f (by omega))).trans e0) L_CM_341 im_CM_span se_CM_span (s_CM_span hG hI14 v13 (by omega) a2N (by omega) a4N (by omega)) rfl ⟨by decide, by decide⟩ ⟨by decide, by decide⟩ (by exact le_b rfl) ?_ _ rfl
              rintro _ w15 ⟨⟨v15, rfl⟩, hI15, hG15⟩
              have hF15 : Fr SC w w15 := Fr.tr hF14 hG15
              show PW _ _ _ _ _ _ (98, [(0, .ref 0), (1, .int (nI a1N)), (2, .int (nI a2N)), (3, .int (nI a3N)), (4, .int (nI a4N)), (5, .int (nI a5N)), (6, .int (nI v13))], [.long v15, .long v14], w15)
              refine P_lmul d_CM_share_98 ?_
              refine P_lstore d_CM_share_99 (by decide) rfl ?_
              refine P_aload_n d_CM_share_101 rfl ?_
              refine P_iload d_CM_share_102 rfl ?_
              refine P_iload_n d_CM_share_104 rfl ?_
              refine P_iload_n d_CM_share_105 rfl ?_
              refine P_callV (M := M_CM_share) (pc := 106) (as := [.int (nI v13), .int (nI a2N), .int (nI a3N)]) (b := 0) d_CM_share_106 co_CM_span ok_CM ((hF15.2 _ (SC_f (by omega))).trans e0) L_CM_341 im_CM_span se_CM_span (s_CM_span hG hI15 v13 (by omega) a2N (by omega) a3N (by omega)) rfl ⟨by decide, by decide⟩ ⟨by decide, by decide⟩ (by exact le_b rfl) ?_ _ rfl
              rintro _ w16 ⟨⟨v16, rfl⟩, hI16, hG16⟩
              have hF16 : Fr SC w w16 := Fr.tr hF15 hG16
              show PW _ _ _ _ _ _ (109, [(0, .ref 0), (1, .int (nI a1N)), (2, .int (nI a2N)), (3, .int (nI a3N)), (4, .int (nI a4N)), (5, .int (nI a5N)), (6, .int (nI v13)), (7, .long (v14 * v15))], [.long v16], w16)
              refine P_aload_n d_CM_share_109 rfl ?_
              refine P_iload d_CM_share_110 rfl ?_
              refine P_iload_n d_CM_share_112 rfl ?_
              refine P_iload d_CM_share_113 rfl ?_
              refine P_callV (M := M_CM_share) (pc := 115) (as := [.int (nI v13), .int (nI a1N), .int (nI a4N)]) (b := 0) d_CM_share_115 co_CM_span ok_CM ((hF16.2 _ (SC_f (by omega))).trans e0) L_CM_341 im_CM_span se_CM_span (s_CM_span hG hI16 v13 (by omega) a1N (by omega) a4N (by omega)) rfl ⟨by decide, by decide⟩ ⟨by decide, by decide⟩ (by exact le_b rfl) ?_ _ rfl
              rintro _ w17 ⟨⟨v17, rfl⟩, hI17, hG17⟩
              have hF17 : Fr SC w w17 := Fr.tr hF16 hG17
              show PW _ _ _ _ _ _ (118, [(0, .ref 0), (1, .int (nI a1N)), (2, .int (nI a2N)), (3, .int (nI a3N)), (4, .int (nI a4N)), (5, .int (nI a5N)), (6, .int (nI v13)), (7, .long (v14 * v15))], [.long v17, .long v16], w17)
              refine P_lmul d_CM_share_118 ?_
              refine P_lstore d_CM_share_119 (by decide) rfl ?_
              refine P_lload d_CM_share_121 rfl ?_
              refine P_lconst (v := 0) d_CM_share_123 (by decide) ?_
              refine P_lcmp d_CM_share_124 ?_
              refine P_if_ne 136 d_CM_share_125 (by decide) (fun c18 => ?_) (fun c18 => ?_)
              · refine P_lload d_CM_share_136 rfl ?_
                refine P_lload d_CM_share_138 rfl ?_
                refine P_iload d_CM_share_140 rfl ?_
                refine P_callS (M := M_CM_share) (pc := 142) (as := [.long (v14 * v15), .long (v16 * v17), .int (nI a5N)]) d_CM_share_142 co_Rows_lowest L_CM_345 sm_Rows_lowest (s_Rows_lowest (v14 * v15) (v16 * v17) (nI a5N)) rfl ⟨by decide, by decide⟩ ⟨by decide, by decide⟩ (by exact le_b rfl) ?_ _ rfl
                rintro _ u ⟨⟨v19, rfl⟩, eu⟩
                subst u
                show PW _ _ _ _ _ _ (145, [(0, .ref 0), (1, .int (nI a1N)), (2, .int (nI a2N)), (3, .int (nI a3N)), (4, .int (nI a4N)), (5, .int (nI a5N)), (6, .int (nI v13)), (7, .long (v14 * v15)), (9, .long (v16 * v17))], [.long v19], w17)
                exact P_lret d_CM_share_145 rfl (le_b rfl) (le_b rfl) ⟨⟨_, rfl⟩, hI17, hF17⟩
              · refine P_iconst (v := 1) d_CM_share_128 (by decide) ?_
                refine P_iload d_CM_share_129 rfl ?_
                refine P_isub d_CM_share_131 ?_
                refine P_i2l d_CM_share_132 ?_
                refine P_goto 145 d_CM_share_133 (by decide) ?_
                exact P_lret d_CM_share_145 rfl (le_b rfl) (le_b rfl) ⟨⟨_, rfl⟩, hI17, hF17⟩
            · refine P_ldc2 (v := (-100000000000)) d_CM_share_68 L_CM_275 ?_
              exact P_lret d_CM_share_71 rfl (le_b rfl) (le_b rfl) ⟨⟨_, rfl⟩, hI11, hF11⟩
    · refine P_ldc2 (v := (-9223372036854775808)) d_CM_share_20 L_CM_270 ?_
      exact P_lret d_CM_share_23 rfl (le_b rfl) (le_b rfl) ⟨⟨_, rfl⟩, hI, Fr.rf⟩
theorem s_CM_fourth {G : pG} {w : pW} (hG : GO G) (hI : I w) (a1 : Int32) (a2 : Int32) (a3 : Int32) (a4 : Int32) : PM G M_CM_fourth 5 0 0 [.ref 0, .int a1, .int a2, .int a3, .int a4] w (fun r w' => (∃ v, r = some (.long v)) ∧ I w' ∧ Fr SC w w') := by
  refine PM_of pn_CM_fourth (le_b rfl) ?_
  show PW _ _ _ _ _ _ (0, [(0, .ref 0), (1, .int a1), (2, .int a2), (3, .int a3), (4, .int a4)], [], w)
  obtain ⟨b, hb, e0⟩ := hI.cm
  obtain ⟨hb1, hb2⟩ := pl_rng hb
  obtain ⟨lc, qc, mc, pc, eb, hlc, hqc, hmc, hpc⟩ := hI.pl hb
  refine P_aload_n d_CM_fourth_0 rfl ?_
  refine P_iload_n d_CM_fourth_1 rfl ?_
  refine P_iload_n d_CM_fourth_2 rfl ?_
  refine P_iload_n d_CM_fourth_3 rfl ?_
  refine P_iload_n d_CM_fourth_4 rfl ?_
  refine P_callV (M := M_CM_fourth) (pc := 5) (as := [.int a1, .int a2, .int a3, .int a3]) (b := 0) d_CM_fourth_5 co_CM_arePoints ok_CM e0 L_CM_330 im_CM_arePoints se_CM_arePoints (s_CM_arePoints e0 eb hlc hqc hmc hpc a1 a2 a3 a3) rfl ⟨by decide, by decide⟩ ⟨by decide, by decide⟩ (by exact le_b rfl) ?_ _ rfl
  rintro _ u ⟨rfl, eu⟩
  subst u
  show PW _ _ _ _ _ _ (8, [(0, .ref 0), (1, .int a1), (2, .int a2), (3, .int a3), (4, .int a4)], [.int (bi (inN pc a1 && inN pc a2 && inN pc a3 && inN pc a3))], w)
  refine P_if_eq 19 d_CM_fourth_8 (by decide) (fun c2 => ?_) (fun c2 => ?_)
  · refine P_ldc2 (v := (-9223372036854775808)) d_CM_fourth_19 L_CM_270 ?_
    exact P_lret d_CM_fourth_22 rfl (le_b rfl) (le_b rfl) ⟨⟨_, rfl⟩, hI, Fr.rf⟩
  · have ac2 := bi_1 c2
    simp only [Bool.and_eq_true] at ac2
    obtain ⟨⟨⟨ac2_0, ac2_1⟩, ac2_2⟩, ac2_3⟩ := ac2
    obtain ⟨a1N, ha1N, rfl⟩ := inN_of ac2_0 (by omega)
    obtain ⟨a2N, ha2N, rfl⟩ := inN_of ac2_1 (by omega)
    obtain ⟨a3N, ha3N, rfl⟩ := inN_of ac2_2 (by omega)
    refine P_iload d_CM_fourth_11 rfl ?_
    refine P_callS (M := M_CM_fourth) (pc := 13) (as := [.int a4]) d_CM_fourth_13 co_CM_isThird L_CM_154 sm_CM_isThird (s_CM_isThird a4) rfl ⟨by decide, by decide⟩ ⟨by decide, by decide⟩ (by exact le_b rfl) ?_ _ rfl
    rintro _ u ⟨rfl, eu⟩
    subst u
    show PW _ _ _ _ _ _ (16, [(0, .ref 0), (1, .int (nI a1N)), (2, .int (nI a2N)), (3, .int (nI a3N)), (4, .int a4)], [.int (bi (inN 3 a4))], w)
    refine P_if_ne 23 d_CM_fourth_16 (by decide) (fun c4 => ?_) (fun c4 => ?_)
    · obtain ⟨a4N, ha4N, rfl⟩ := inN_of (bi_1 c4) (by omega)
      refine P_aload_n d_CM_fourth_23 rfl ?_
      refine P_iload_n d_CM_fourth_24 rfl ?_
      refine P_iload_n d_CM_fourth_25 rfl ?_
      refine P_iload_n d_CM_fourth_26 rfl ?_
      refine P_callV (M := M_CM_fourth) (pc := 27) (as := [.int (nI a1N), .int (nI a2N), .int (nI a3N)]) (b := 0) d_CM_fourth_27 co_CM_areInLine ok_CM e0 L_CM_327 im_CM_areInLine se_CM_areInLine (s_CM_areInLine hG hI a1N (by omega) a2N (by omega) a3N (by omega)) rfl ⟨by decide, by decide⟩ ⟨by decide, by decide⟩ (by exact le_b rfl) ?_ _ rfl
      rintro _ w5 ⟨⟨v5, rfl⟩, hI5, hG5⟩
      have hF5 : Fr SC w w5 := Fr.tr Fr.rf hG5
      show PW _ _ _ _ _ _ (30, [(0, .ref 0), (1, .int (nI a1N)), (2, .int (nI a2N)), (3, .int (nI a3N)), (4, .int (nI a4N))], [.int (bi v5)], w5)
      refine P_if_eq 60 d_CM_fourth_30 (by decide) (fun c6 => ?_) (fun c6 => ?_)
      · refine P_ldc2 (v := (-100000000000)) d_CM_fourth_60 L_CM_275 ?_
        exact P_lret d_CM_fourth_63 rfl (le_b rfl) (le_b rfl) ⟨⟨_, rfl⟩, hI5, hF5⟩
      · refine P_aload_n d_CM_fourth_33 rfl ?_
        refine P_iload_n d_CM_fourth_34 rfl ?_
        refine P_iload_n d_CM_fourth_35 rfl ?_
        refine P_callV (M := M_CM_fourth) (pc := 36) (as := [.int (nI a1N), .int (nI a2N)]) (b := 0) d_CM_fourth_36 co_CM_areAlike ok_CM ((hF5.2 _ (SC_f (by omega))).trans e0) L_CM_349 im_CM_areAlike se_CM_areAlike (s_CM_areAlike hG hI5 a1N (by omega) a2N (by omega)) rfl ⟨by decide, by decide⟩ ⟨by decide, by decide⟩ (by exact le_b rfl) ?_ _ rfl
        rintro _ w7 ⟨⟨v7, rfl⟩, hI7, hG7⟩
        have hF7 : Fr SC w w7 := Fr.tr hF5 hG7
        show PW _ _ _ _ _ _ (39, [(0, .ref 0), (1, .int (nI a1N)), (2, .int (nI a2N)), (3, .int (nI a3N)), (4, .int (nI a4N))], [.int (bi v7)], w7)
        refine P_if_ne 60 d_CM_fourth_39 (by decide) (fun c8 => ?_) (fun c8 => ?_)
        · refine P_ldc2 (v := (-100000000000)) d_CM_fourth_60 L_CM_275 ?_
          exact P_lret d_CM_fourth_63 rfl (le_b rfl) (le_b rfl) ⟨⟨_, rfl⟩, hI7, hF7⟩
        · refine P_aload_n d_CM_fourth_42 rfl ?_
          refine P_iload_n d_CM_fourth_43 rfl ?_
          refine P_iload_n d_CM_fourth_44 rfl ?_
          refine P_callV (M := M_CM_fourth) (pc := 45) (as := [.int (nI a1N), .int (nI a3N)]) (b := 0) d_CM_fourth_45 co_CM_areAlike ok_CM ((hF7.2 _ (SC_f (by omega))).trans e0) L_CM_349 im_CM_areAlike se_CM_areAlike (s_CM_areAlike hG hI7 a1N (by omega) a3N (by omega)) rfl ⟨by decide, by decide⟩ ⟨by decide, by decide⟩ (by exact le_b rfl) ?_ _ rfl
          rintro _ w9 ⟨⟨v9, rfl⟩, hI9, hG9⟩
          have hF9 : Fr SC w w9 := Fr.tr hF7 hG9
          show PW _ _ _ _ _ _ (48, [(0, .ref 0), (1, .int (nI a1N)), (2, .int (nI a2N)), (3, .int (nI a3N)), (4, .int (nI a4N))], [.int (bi v9)], w9)
          refine P_if_ne 60 d_CM_fourth_48 (by decide) (fun c10 => ?_) (fun c10 => ?_)
          · refine P_ldc2 (v := (-100000000000)) d_CM_fourth_60 L_CM_275 ?_
            exact P_lret d_CM_fourth_63 rfl (le_b rfl) (le_b rfl) ⟨⟨_, rfl⟩, hI9, hF9⟩
          · refine P_aload_n d_CM_fourth_51 rfl ?_
            refine P_iload_n d_CM_fourth_52 rfl ?_
            refine P_iload_n d_CM_fourth_53 rfl ?_
            refine P_callV (M := M_CM_fourth) (pc := 54) (as := [.int (nI a2N), .int (nI a3N)]) (b := 0) d_CM_fourth_54 co_CM_areAlike ok_CM ((hF9.2 _ (SC_f (by omega))).trans e0) L_CM_349 im_CM_areAlike se_CM_areAlike (s_CM_areAlike hG hI9 a2N (by omega) a3N (by omega)) rfl ⟨by decide, by decide⟩ ⟨by decide, by decide⟩ (by exact le_b rfl) ?_ _ rfl
            rintro _ w11 ⟨⟨v11, rfl⟩, hI11, hG11⟩
            have hF11 : Fr SC w w11 := Fr.tr hF9 hG11
            show PW _ _ _ _ _ _ (57, [(0, .ref 0), (1, .int (nI a1N)), (2, .int (nI a2N)), (3, .int (nI a3N)), (4, .int (nI a4N))], [.int (bi v11)], w11)
            refine P_if_eq 64 d_CM_fourth_57 (by decide) (fun c12 => ?_) (fun c12 => ?_)
            · refine P_aload_n d_CM_fourth_64 rfl ?_
              refine P_iload_n d_CM_fourth_65 rfl ?_
              refine P_iload_n d_CM_fourth_66 rfl ?_
              refine P_iload_n d_CM_fourth_67 rfl ?_
              refine P_callV (M := M_CM_fourth) (pc := 68) (as := [.int (nI a1N), .int (nI a2N), .int (nI a3N)]) (b := 0) d_CM_fourth_68 co_CM_axisOutside ok_CM ((hF11.2 _ (SC_f (by omega))).trans e0) L_CM_337 im_CM_axisOutside se_CM_axisOutside (s_CM_axisOutside hG hI11 a1N (by omega) a2N (by omega) a3N (by omega)) rfl ⟨by decide, by decide⟩ ⟨by decide, by decide⟩ (by exact le_b rfl) ?_ _ rfl
              rintro _ w13 ⟨⟨v13, hv13, rfl⟩, hI13, hG13⟩
              have hF13 : Fr SC w w13 := Fr.tr hF11 hG13
              show PW _ _ _ _ _ _ (71, [(0, .ref 0), (1, .int (nI a1N)), (2, .int (nI a2N)), (3, .int (nI a3N)), (4, .int (nI a4N))], [.int (nI v13)], w13)
              refine P_istore d_CM_fourth_71 (by decide) rfl ?_
              refine P_aload_n d_CM_fourth_73 rfl ?_
              refine P_iload d_CM_fourth_74 rfl ?_
              refine P_iload_n d_CM_fourth_76 rfl ?_
              refine P_iload_n d_CM_fourth_77 rfl ?_
              refine P_callV (M := M_CM_fourth) (pc := 78) (as := [.int (nI v13), .int (nI a2N), .int (nI a3N)]) (b := 0) d_CM_fourth_78 co_CM_span ok_CM ((hF13.2 _ (SC_f (by omega))).trans e0) L_CM_341 im_CM_span se_CM_span (s_CM_span hG hI13 v13 (by omega) a2N (by omega) a3N (by omega)) rfl ⟨by decide, by decide⟩ ⟨by decide, by decide⟩ (by exact le_b rfl) ?_ _ rfl
              rintro _ w14 ⟨⟨v14, rfl⟩, hI14, hG14⟩
              have hF14 : Fr SC w w14 := Fr.tr hF13 hG14
              show PW _ _ _ _ _ _ (81, [(0, .ref 0), (1, .int (nI a1N)), (2, .int (nI a2N)), (3, .int (nI a3N)), (4, .int (nI a4N)), (5, .int (nI v13))], [.long v14], w14)
              refine P_lstore d_CM_fourth_81 (by decide) rfl ?_
              refine P_aload_n d_CM_fourth_83 rfl ?_
              refine P_iload d_CM_fourth_84 rfl ?_
              refine P_iload_n d_CM_fourth_86 rfl ?_
              refine P_iload_n d_CM_fourth_87 rfl ?_
              refine P_callV (M := M_CM_fourth) (pc := 88) (as := [.int (nI v13), .int (nI a1N), .int (nI a3N)]) (b := 0) d_CM_fourth_88 co_CM_span ok_CM ((hF14.2 _ (SC_f (by omega))).trans e0) L_CM_341 im_CM_span se_CM_span (s_CM_span hG hI14 v13 (by omega) a1N (by omega) a3N (by omega)) rfl ⟨by decide, by decide⟩ ⟨by decide, by decide⟩ (by exact le_b rfl) ?_ _ rfl
              rintro _ w15 ⟨⟨v15, rfl⟩, hI15, hG15⟩
              have hF15 : Fr SC w w15 := Fr.tr hF14 hG15
              show PW _ _ _ _ _ _ (91, [(0, .ref 0), (1, .int (nI a1N)), (2, .int (nI a2N)), (3, .int (nI a3N)), (4, .int (nI a4N)), (5, .int (nI v13)), (6, .long v14)], [.long v15], w15)
              refine P_lstore d_CM_fourth_91 (by decide) rfl ?_
              refine P_iconst (v := 0) d_CM_fourth_93 (by decide) ?_
              refine P_istore d_CM_fourth_94 (by decide) rfl ?_
              refine PW_ind (σ := pW) (3) (fun jj ss => I (ss) ∧ Fr SC w (ss)) (fun jj ss => (96, [(0, .ref 0), (1, .int (nI a1N)), (2, .int (nI a2N)), (3, .int (nI a3N)), (4, .int (nI a4N)), (5, .int (nI v13)), (6, .long v14), (8, .long v15), (10, .int (nI jj))], [], ss)) ?_ ?_ 0 (w15) (by omega) ⟨hI15, hF15⟩
              · rintro uj16 ⟨hIj16, hFj16⟩
                show PW _ _ _ _ _ _ (96, [(0, .ref 0), (1, .int (nI a1N)), (2, .int (nI a2N)), (3, .int (nI a3N)), (4, .int (nI a4N)), (5, .int (nI v13)), (6, .long v14), (8, .long v15), (10, .int 3)], [], uj16)
                refine P_iload d_CM_fourth_96 rfl ?_
                refine P_iconst (v := 3) d_CM_fourth_98 (by decide) ?_
                refine P_icmp_ge 146 d_CM_fourth_99 (by decide) (fun _ => ?_) (fun h => absurd (by decide) h)
                refine P_aload_n d_CM_fourth_146 rfl ?_
                refine P_getf (i := 12) d_CM_fourth_147 ok_CM (by decide) L_CM_78 ((hFj16.2 _ (SC_f (by omega))).trans e0) rfl ?_
                obtain ⟨f17, f17e⟩ := hIj16.row (r := 453) (by decide) kc_453
                refine P_callS (M := M_CM_fourth) (pc := 150) (as := [.ref 453]) d_CM_fourth_150 co_Rows_reduce L_CM_352 sm_Rows_reduce (v_Rows_reduce f17e (by decide) (by decide) (by decide)) rfl ⟨by decide, by decide⟩ ⟨by decide, by decide⟩ (by exact le_b rfl) ?_ _ rfl
                rintro _ w18 ⟨rfl, e18⟩
                have s18 := w_s e18
                generalize rdC _ _ = g19 at e18 s18
                have hI18 : I w18 := hIj16.setL e18 kc_453
                have hF18 : Fr SC w w18 := Fr.set hFj16 e18 (SC_t (by omega))
                show PW _ _ _ _ _ _ (153, [(0, .ref 0), (1, .int (nI a1N)), (2, .int (nI a2N)), (3, .int (nI a3N)), (4, .int (nI a4N)), (5, .int (nI v13)), (6, .long v14), (8, .long v15), (10, .int 3)], [], w18)
                refine P_aload_n d_CM_fourth_153 rfl ?_
                refine P_getf (i := 12) d_CM_fourth_154 ok_CM (by decide) L_CM_78 ((hF18.2 _ (SC_f (by omega))).trans e0) rfl ?_
                refine P_iload d_CM_fourth_157 rfl ?_
                refine P_lald (j := a4N) d_CM_fourth_159 s18 (ix_nI (by omega)) (by omega) ?_
                exact P_lret d_CM_fourth_160 rfl (le_b rfl) (le_b rfl) ⟨⟨_, rfl⟩, hI18, hF18⟩
              · rintro j16 uj16 hj16 ⟨hIj16, hFj16⟩ kkj16
                show PW _ _ _ _ _ _ (96, [(0, .ref 0), (1, .int (nI a1N)), (2, .int (nI a2N)), (3, .int (nI a3N)), (4, .int (nI a4N)), (5, .int (nI v13)), (6, .long v14), (8, .long v15), (10, .int (nI j16))], [], uj16)
                refine P_iload d_CM_fourth_96 rfl ?_
                refine P_iconst (v := 3) d_CM_fourth_98 (by decide) ?_
                refine P_icmp_ge 146 d_CM_fourth_99 (by decide) (fun h => absurd h (nI_geF (a := j16) (b := 3) (by omega) (by omega))) (fun _ => ?_)
                refine P_aload_n d_CM_fourth_102 rfl ?_
                refine P_getf (i := 12) d_CM_fourth_103 ok_CM (by decide) L_CM_78 ((hFj16.2 _ (SC_f (by omega))).trans e0) rfl ?_
                refine P_iload d_CM_fourth_106 rfl ?_
                refine P_lload d_CM_fourth_108 rfl ?_
                refine P_aload_n d_CM_fourth_110 rfl ?_
                refine P_getf (i := 0) d_CM_fourth_111 ok_CM (by decide) L_CM_12 ((hFj16.2 _ (SC_f (by omega))).trans e0) rfl ?_
                refine P_getfN (i := 2) d_CM_fourth_114 ok_Plane (by decide) L_CM_163 ((hFj16.2 _ (SC_f (by omega))).trans eb) rfl ?_
                refine P_iload_n d_CM_fourth_117 rfl ?_
                refine P_aald (j := a1N) (q := b + 19 + 1 + a1N) d_CM_fourth_118 (hIj16.ps hb) rfl (ix_nI (by omega)) (by omega) (rows_at (by omega)) ?_
                refine P_iload d_CM_fourth_119 rfl ?_
                obtain ⟨f20, f20e⟩ := hIj16.row (r := b + 19 + 1 + a1N) (by omega) (Kc_p hb (by omega))
                refine P_lald (j := j16) d_CM_fourth_121 f20e (ix_nI (by omega)) (by omega) ?_
                refine P_lmul d_CM_fourth_122 ?_
                refine P_lload d_CM_fourth_123 rfl ?_
                refine P_aload_n d_CM_fourth_125 rfl ?_
                refine P_getf (i := 0) d_CM_fourth_126 ok_CM (by decide) L_CM_12 ((hFj16.2 _ (SC_f (by omega))).trans e0) rfl ?_
                refine P_getfN (i := 2) d_CM_fourth_129 ok_Plane (by decide) L_CM_163 ((hFj16.2 _ (SC_f (by omega))).trans eb) rfl ?_
                refine P_iload_n d_CM_fourth_132 rfl ?_
                refine P_aald (j := a2N) (q := b + 19 + 1 + a2N) d_CM_fourth_133 (hIj16.ps hb) rfl (ix_nI (by omega)) (by omega) (rows_at (by omega)) ?_
                refine P_iload d_CM_fourth_134 rfl ?_
                obtain ⟨f21, f21e⟩ := hIj16.row (r := b + 19 + 1 + a2N) (by omega) (Kc_p hb (by omega))
                refine P_lald (j := j16) d_CM_fourth_136 f21e (ix_nI (by omega)) (by omega) ?_
                refine P_lmul d_CM_fourth_137 ?_
                refine P_ladd d_CM_fourth_138 ?_
                obtain ⟨f22, f22e⟩ := hIj16.row (r := 453) (by decide) kc_453
                refine P_lastG (j := j16) d_CM_fourth_139 f22e (by decide) (ix_nI (by omega)) (by omega) (fun w23 e23 s23 n23 z23 => ?_)
                generalize vp_updL _ _ _ = g24 at e23 s23
                have hI23 : I w23 := hIj16.setL e23 kc_453
                have hF23 : Fr SC w w23 := Fr.set hFj16 e23 (SC_t (by omega))
                show PW _ _ _ _ _ _ (140, [(0, .ref 0), (1, .int (nI a1N)), (2, .int (nI a2N)), (3, .int (nI a3N)), (4, .int (nI a4N)), (5, .int (nI v13)), (6, .long v14), (8, .long v15), (10, .int (nI j16))], [], w23)
                refine P_iinc (v := nI (j16 + 1)) d_CM_fourth_140 (by decide) rfl (nI_add j16 1) rfl ?_
                refine P_goto 96 d_CM_fourth_143 (by decide) ?_
                exact kkj16 (w23) ⟨hI23, hF23⟩
            · refine P_ldc2 (v := (-100000000000)) d_CM_fourth_60 L_CM_275 ?_
              exact P_lret d_CM_fourth_63 rfl (le_b rfl) (le_b rfl) ⟨⟨_, rfl⟩, hI11, hF11⟩
    · refine P_ldc2 (v := (-9223372036854775808)) d_CM_fourth_19 L_CM_270 ?_
      exact P_lret d_CM_fourth_22 rfl (le_b rfl) (le_b rfl) ⟨⟨_, rfl⟩, hI, Fr.rf⟩
theorem s_CM_track {G : pG} {w : pW} (hG : GO G) (hI : I w) (a1 : Int32) (a2 : Int32) (a3 : Int32) (a4 : Int32) : PM G M_CM_track 6 0 0 [.ref 0, .int a1, .int a2, .int a3, .int a4] w (fun r w' => (∃ v, r = some (.long v)) ∧ I w' ∧ Fr SC w w') := by
  refine PM_of pn_CM_track (le_b rfl) ?_
  show PW _ _ _ _ _ _ (0, [(0, .ref 0), (1, .int a1), (2, .int a2), (3, .int a3), (4, .int a4)], [], w)
  obtain ⟨b, hb, e0⟩ := hI.cm
  obtain ⟨hb1, hb2⟩ := pl_rng hb
  obtain ⟨lc, qc, mc, pc, eb, hlc, hqc, hmc, hpc⟩ := hI.pl hb
  refine P_aload_n d_CM_track_0 rfl ?_
  refine P_getf (i := 0) d_CM_track_1 ok_CM (by decide) L_CM_12 e0 rfl ?_
  refine P_iload_n d_CM_track_4 rfl ?_
  refine P_callV (M := M_CM_track) (pc := 5) (as := [.int a1]) (b := b) d_CM_track_5 co_Plane_hasMap ok_Plane eb L_CM_151 im_Plane_hasMap se_Plane_hasMap (s_Plane_hasMap eb hlc hqc hmc hpc a1) rfl ⟨by decide, by decide⟩ ⟨by decide, by decide⟩ (by exact le_b rfl) ?_ _ rfl
  rintro _ u ⟨rfl, eu⟩
  subst u
  show PW _ _ _ _ _ _ (8, [(0, .ref 0), (1, .int a1), (2, .int a2), (3, .int a3), (4, .int a4)], [.int (bi (inN mc a1))], w)
  refine P_if_eq 40 d_CM_track_8 (by decide) (fun c2 => ?_) (fun c2 => ?_)
  · refine P_ldc2 (v := (-9223372036854775808)) d_CM_track_40 L_CM_270 ?_
    exact P_lret d_CM_track_43 rfl (le_b rfl) (le_b rfl) ⟨⟨_, rfl⟩, hI, Fr.rf⟩
  · obtain ⟨a1N, ha1N, rfl⟩ := inN_of (bi_1 c2) (by omega)
    refine P_aload_n d_CM_track_11 rfl ?_
    refine P_getf (i := 0) d_CM_track_12 ok_CM (by decide) L_CM_12 e0 rfl ?_
    refine P_iload_n d_CM_track_15 rfl ?_
    refine P_callV (M := M_CM_track) (pc := 16) (as := [.int a2]) (b := b) d_CM_track_16 co_Plane_hasPoint ok_Plane eb L_CM_160 im_Plane_hasPoint se_Plane_hasPoint (s_Plane_hasPoint eb hlc hqc hmc hpc a2) rfl ⟨by decide, by decide⟩ ⟨by decide, by decide⟩ (by exact le_b rfl) ?_ _ rfl
    rintro _ u ⟨rfl, eu⟩
    subst u
    show PW _ _ _ _ _ _ (19, [(0, .ref 0), (1, .int (nI a1N)), (2, .int a2), (3, .int a3), (4, .int a4)], [.int (bi (inN pc a2))], w)
    refine P_if_eq 40 d_CM_track_19 (by decide) (fun c4 => ?_) (fun c4 => ?_)
    · refine P_ldc2 (v := (-9223372036854775808)) d_CM_track_40 L_CM_270 ?_
      exact P_lret d_CM_track_43 rfl (le_b rfl) (le_b rfl) ⟨⟨_, rfl⟩, hI, Fr.rf⟩
    · obtain ⟨a2N, ha2N, rfl⟩ := inN_of (bi_1 c4) (by omega)
      refine P_iload_n d_CM_track_22 rfl ?_
      refine P_if_lt 40 d_CM_track_23 (by decide) (fun c5 => ?_) (fun c5 => ?_)
      · refine P_ldc2 (v := (-9223372036854775808)) d_CM_track_40 L_CM_270 ?_
        exact P_lret d_CM_track_43 rfl (le_b rfl) (le_b rfl) ⟨⟨_, rfl⟩, hI, Fr.rf⟩
      · refine P_iload_n d_CM_track_26 rfl ?_
        refine P_bipush (v := 20) d_CM_track_27 (by decide) ?_
        refine P_icmp_gt 40 d_CM_track_29 (by decide) (fun c6 => ?_) (fun c6 => ?_)
        · refine P_ldc2 (v := (-9223372036854775808)) d_CM_track_40 L_CM_270 ?_
          exact P_lret d_CM_track_43 rfl (le_b rfl) (le_b rfl) ⟨⟨_, rfl⟩, hI, Fr.rf⟩
        · obtain ⟨a3N, ha3N, rfl⟩ := nI_of_gt (n := 20) c5 c6 rfl
          refine P_iload d_CM_track_32 rfl ?_
          refine P_callS (M := M_CM_track) (pc := 34) (as := [.int a4]) d_CM_track_34 co_CM_isThird L_CM_154 sm_CM_isThird (s_CM_isThird a4) rfl ⟨by decide, by decide⟩ ⟨by decide, by decide⟩ (by exact le_b rfl) ?_ _ rfl
          rintro _ u ⟨rfl, eu⟩
          subst u
          show PW _ _ _ _ _ _ (37, [(0, .ref 0), (1, .int (nI a1N)), (2, .int (nI a2N)), (3, .int (nI a3N)), (4, .int a4)], [.int (bi (inN 3 a4))], w)
          refine P_if_ne 44 d_CM_track_37 (by decide) (fun c8 => ?_) (fun c8 => ?_)
          · obtain ⟨a4N, ha4N, rfl⟩ := inN_of (bi_1 c8) (by omega)
            refine P_aload_n d_CM_track_44 rfl ?_
            refine P_iload_n d_CM_track_45 rfl ?_
            refine P_iload_n d_CM_track_46 rfl ?_
            refine P_iload_n d_CM_track_47 rfl ?_
            refine P_callV (M := M_CM_track) (pc := 48) (as := [.int (nI a1N), .int (nI a2N), .int (nI a3N)]) (b := 0) d_CM_track_48 co_CM_follow ok_CM e0 L_CM_355 im_CM_follow se_CM_follow (s_CM_follow hG hI a1N (by omega) a2N (by omega) a3N (by omega)) rfl ⟨by decide, by decide⟩ ⟨by decide, by decide⟩ (by exact le_b rfl) ?_ _ rfl
            rintro _ w9 ⟨⟨v9, rfl⟩, hI9, hG9⟩
            have hF9 : Fr SC w w9 := Fr.tr Fr.rf hG9
            show PW _ _ _ _ _ _ (51, [(0, .ref 0), (1, .int (nI a1N)), (2, .int (nI a2N)), (3, .int (nI a3N)), (4, .int (nI a4N))], [.int (bi v9)], w9)
            refine P_if_eq 64 d_CM_track_51 (by decide) (fun c10 => ?_) (fun c10 => ?_)
            · refine P_ldc2 (v := (-100000000000)) d_CM_track_64 L_CM_275 ?_
              exact P_lret d_CM_track_67 rfl (le_b rfl) (le_b rfl) ⟨⟨_, rfl⟩, hI9, hF9⟩
            · refine P_aload_n d_CM_track_54 rfl ?_
              refine P_getf (i := 13) d_CM_track_55 ok_CM (by decide) L_CM_81 ((hF9.2 _ (SC_f (by omega))).trans e0) rfl ?_
              refine P_iload d_CM_track_58 rfl ?_
              obtain ⟨f11, f11e⟩ := hI9.row (r := 454) (by decide) kc_454
              refine P_lald (j := a4N) d_CM_track_60 f11e (ix_nI (by omega)) (by omega) ?_
              refine P_goto 67 d_CM_track_61 (by decide) ?_
              exact P_lret d_CM_track_67 rfl (le_b rfl) (le_b rfl) ⟨⟨_, rfl⟩, hI9, hF9⟩
          · refine P_ldc2 (v := (-9223372036854775808)) d_CM_track_40 L_CM_270 ?_
            exact P_lret d_CM_track_43 rfl (le_b rfl) (le_b rfl) ⟨⟨_, rfl⟩, hI, Fr.rf⟩
theorem s_CM_cycle {G : pG} {w : pW} (hG : GO G) (hI : I w) (a1 : Int32) (a2 : Int32) : PM G M_CM_cycle 5 0 0 [.ref 0, .int a1, .int a2] w (fun r w' => (∃ v, r = some (.int v)) ∧ I w' ∧ Fr SC w w') := by
  refine PM_of pn_CM_cycle (le_b rfl) ?_
  show PW _ _ _ _ _ _ (0, [(0, .ref 0), (1, .int a1), (2, .int a2)], [], w)
  obtain ⟨b, hb, e0⟩ := hI.cm
  obtain ⟨hb1, hb2⟩ := pl_rng hb
  obtain ⟨lc, qc, mc, pc, eb, hlc, hqc, hmc, hpc⟩ := hI.pl hb
  refine P_aload_n d_CM_cycle_0 rfl ?_
  refine P_getf (i := 0) d_CM_cycle_1 ok_CM (by decide) L_CM_12 e0 rfl ?_
  refine P_iload_n d_CM_cycle_4 rfl ?_
  refine P_callV (M := M_CM_cycle) (pc := 5) (as := [.int a1]) (b := b) d_CM_cycle_5 co_Plane_hasMap ok_Plane eb L_CM_151 im_Plane_hasMap se_Plane_hasMap (s_Plane_hasMap eb hlc hqc hmc hpc a1) rfl ⟨by decide, by decide⟩ ⟨by decide, by decide⟩ (by exact le_b rfl) ?_ _ rfl
  rintro _ u ⟨rfl, eu⟩
  subst u
  show PW _ _ _ _ _ _ (8, [(0, .ref 0), (1, .int a1), (2, .int a2)], [.int (bi (inN mc a1))], w)
  refine P_if_eq 22 d_CM_cycle_8 (by decide) (fun c2 => ?_) (fun c2 => ?_)
  · refine P_iconst (v := (-1)) d_CM_cycle_22 (by decide) ?_
    exact P_iret d_CM_cycle_23 rfl (le_b rfl) (le_b rfl) ⟨⟨_, rfl⟩, hI, Fr.rf⟩
  · obtain ⟨a1N, ha1N, rfl⟩ := inN_of (bi_1 c2) (by omega)
    refine P_aload_n d_CM_cycle_11 rfl ?_
    refine P_getf (i := 0) d_CM_cycle_12 ok_CM (by decide) L_CM_12 e0 rfl ?_
    refine P_iload_n d_CM_cycle_15 rfl ?_
    refine P_callV (M := M_CM_cycle) (pc := 16) (as := [.int a2]) (b := b) d_CM_cycle_16 co_Plane_hasPoint ok_Plane eb L_CM_160 im_Plane_hasPoint se_Plane_hasPoint (s_Plane_hasPoint eb hlc hqc hmc hpc a2) rfl ⟨by decide, by decide⟩ ⟨by decide, by decide⟩ (by exact le_b rfl) ?_ _ rfl
    rintro _ u ⟨rfl, eu⟩
    subst u
    show PW _ _ _ _ _ _ (19, [(0, .ref 0), (1, .int (nI a1N)), (2, .int a2)], [.int (bi (inN pc a2))], w)
    refine P_if_ne 24 d_CM_cycle_19 (by decide) (fun c4 => ?_) (fun c4 => ?_)
    · obtain ⟨a2N, ha2N, rfl⟩ := inN_of (bi_1 c4) (by omega)
      refine P_aload_n d_CM_cycle_24 rfl ?_
      refine P_getf (i := 0) d_CM_cycle_25 ok_CM (by decide) L_CM_12 e0 rfl ?_
      refine P_getfN (i := 2) d_CM_cycle_28 ok_Plane (by decide) L_CM_163 eb rfl ?_
      refine P_iload_n d_CM_cycle_31 rfl ?_
      refine P_aald (j := a2N) (q := b + 19 + 1 + a2N) d_CM_cycle_32 (hI.ps hb) rfl (ix_nI (by omega)) (by omega) (rows_at (by omega)) ?_
      refine P_aload_n d_CM_cycle_33 rfl ?_
      refine P_getf (i := 13) d_CM_cycle_34 ok_CM (by decide) L_CM_81 e0 rfl ?_
      obtain ⟨f5, f5e⟩ := hI.row (r := b + 19 + 1 + a2N) (by omega) (Kc_p hb (by omega))
      obtain ⟨f6, f6e⟩ := hI.row (r := 454) (by decide) kc_454
      refine P_callS (M := M_CM_cycle) (pc := 37) (as := [.ref (b + 19 + 1 + a2N), .ref 454]) d_CM_cycle_37 co_Rows_copy L_CM_209 sm_Rows_copy (v_Rows_copy f5e f6e (by decide) (by decide)) rfl ⟨by decide, by decide⟩ ⟨by decide, by decide⟩ (by exact le_b rfl) ?_ _ rfl
      rintro _ w7 ⟨rfl, e7⟩
      have s7 := w_s e7
      generalize va_cpy _ _ _ _ _ = g8 at e7 s7
      have hI7 : I w7 := hI.setL e7 kc_454
      have hF7 : Fr SC w w7 := Fr.set Fr.rf e7 (SC_t (by omega))
      show PW _ _ _ _ _ _ (40, [(0, .ref 0), (1, .int (nI a1N)), (2, .int (nI a2N))], [], w7)
      refine P_iconst (v := 1) d_CM_cycle_40 (by decide) ?_
      refine P_istore_n d_CM_cycle_41 (by decide) rfl ?_
      refine PW_ind (σ := pW) (21) (fun jj ss => I (ss) ∧ Fr SC w (ss)) (fun jj ss => (42, [(0, .ref 0), (1, .int (nI a1N)), (2, .int (nI a2N)), (3, .int (nI jj))], [], ss)) ?_ ?_ 1 (w7) (by omega) ⟨hI7, hF7⟩
      · rintro uj9 ⟨hIj9, hFj9⟩
        show PW _ _ _ _ _ _ (42, [(0, .ref 0), (1, .int (nI a1N)), (2, .int (nI a2N)), (3, .int 21)], [], uj9)
        refine P_iload_n d_CM_cycle_42 rfl ?_
        refine P_bipush (v := 20) d_CM_cycle_43 (by decide) ?_
        refine P_icmp_gt 86 d_CM_cycle_45 (by decide) (fun _ => ?_) (fun h => absurd (by decide) h)
        refine P_bipush (v := (-2)) d_CM_cycle_86 (by decide) ?_
        exact P_iret d_CM_cycle_88 rfl (le_b rfl) (le_b rfl) ⟨⟨_, rfl⟩, hIj9, hFj9⟩
      · rintro j9 uj9 hj9 ⟨hIj9, hFj9⟩ kkj9
        show PW _ _ _ _ _ _ (42, [(0, .ref 0), (1, .int (nI a1N)), (2, .int (nI a2N)), (3, .int (nI j9))], [], uj9)
        refine P_iload_n d_CM_cycle_42 rfl ?_
        refine P_bipush (v := 20) d_CM_cycle_43 (by decide) ?_
        refine P_icmp_gt 86 d_CM_cycle_45 (by decide) (fun h => absurd h (nI_gtF (a := j9) (b := 20) (by omega) (by omega))) (fun _ => ?_)
        refine P_aload_n d_CM_cycle_48 rfl ?_
        refine P_iload_n d_CM_cycle_49 rfl ?_
        refine P_callV (M := M_CM_cycle) (pc := 50) (as := [.int (nI a1N)]) (b := 0) d_CM_cycle_50 co_CM_stepOn ok_CM ((hFj9.2 _ (SC_f (by omega))).trans e0) L_CM_358 im_CM_stepOn se_CM_stepOn (s_CM_stepOn hG hIj9 a1N (by omega)) rfl ⟨by decide, by decide⟩ ⟨by decide, by decide⟩ (by exact le_b rfl) ?_ _ rfl
        rintro _ w10 ⟨⟨v10, rfl⟩, hI10, hG10⟩
        have hF10 : Fr SC w w10 := Fr.tr hFj9 hG10
        show PW _ _ _ _ _ _ (53, [(0, .ref 0), (1, .int (nI a1N)), (2, .int (nI a2N)), (3, .int (nI j9))], [.int (bi v10)], w10)
        refine P_if_ne 59 d_CM_cycle_53 (by decide) (fun c11 => ?_) (fun c11 => ?_)
        · refine P_aload_n d_CM_cycle_59 rfl ?_
          refine P_getf (i := 13) d_CM_cycle_60 ok_CM (by decide) L_CM_81 ((hF10.2 _ (SC_f (by omega))).trans e0) rfl ?_
          refine P_aload_n d_CM_cycle_63 rfl ?_
          refine P_getf (i := 0) d_CM_cycle_64 ok_CM (by decide) L_CM_12 ((hF10.2 _ (SC_f (by omega))).trans e0) rfl ?_
          refine P_getfN (i := 2) d_CM_cycle_67 ok_Plane (by decide) L_CM_163 ((hF10.2 _ (SC_f (by omega))).trans eb) rfl ?_
          refine P_iload_n d_CM_cycle_70 rfl ?_
          refine P_aald (j := a2N) (q := b + 19 + 1 + a2N) d_CM_cycle_71 (hI10.ps hb) rfl (ix_nI (by omega)) (by omega) (rows_at (by omega)) ?_
          obtain ⟨f12, f12e⟩ := hI10.row (r := 454) (by decide) kc_454
          obtain ⟨f13, f13e⟩ := hI10.row (r := b + 19 + 1 + a2N) (by omega) (Kc_p hb (by omega))
          refine P_callS (M := M_CM_cycle) (pc := 72) (as := [.ref 454, .ref (b + 19 + 1 + a2N)]) d_CM_cycle_72 co_Rows_alike L_CM_306 sm_Rows_alike (s_Rows_alike (by decide) (by decide) f12e f13e) rfl ⟨by decide, by decide⟩ ⟨by decide, by decide⟩ (by exact le_b rfl) ?_ _ rfl
          rintro _ u ⟨⟨v14, rfl⟩, eu⟩
          subst u
          show PW _ _ _ _ _ _ (75, [(0, .ref 0), (1, .int (nI a1N)), (2, .int (nI a2N)), (3, .int (nI j9))], [.int (bi v14)], w10)
          refine P_if_eq 80 d_CM_cycle_75 (by decide) (fun c15 => ?_) (fun c15 => ?_)
          · refine P_iinc (v := nI (j9 + 1)) d_CM_cycle_80 (by decide) rfl (nI_add j9 1) rfl ?_
            refine P_goto 42 d_CM_cycle_83 (by decide) ?_
            exact kkj9 (w10) ⟨hI10, hF10⟩
          · refine P_iload_n d_CM_cycle_78 rfl ?_
            exact P_iret d_CM_cycle_79 rfl (le_b rfl) (le_b rfl) ⟨⟨_, rfl⟩, hI10, hF10⟩
        · refine P_bipush (v := (-2)) d_CM_cycle_56 (by decide) ?_
          exact P_iret d_CM_cycle_58 rfl (le_b rfl) (le_b rfl) ⟨⟨_, rfl⟩, hI10, hF10⟩
    · refine P_iconst (v := (-1)) d_CM_cycle_22 (by decide) ?_
      exact P_iret d_CM_cycle_23 rfl (le_b rfl) (le_b rfl) ⟨⟨_, rfl⟩, hI, Fr.rf⟩
theorem s_CM_whole {G : pG} {w : pW} (hG : GO G) (hI : I w) (a1 : Int32) (a2 : Int32) : PM G M_CM_whole 4 0 0 [.ref 0, .int a1, .int a2] w (fun r w' => (∃ v, r = some (.int v)) ∧ I w' ∧ Fr SC w w') := by
  refine PM_of pn_CM_whole (le_b rfl) ?_
  show PW _ _ _ _ _ _ (0, [(0, .ref 0), (1, .int a1), (2, .int a2)], [], w)
  obtain ⟨b, hb, e0⟩ := hI.cm
  obtain ⟨hb1, hb2⟩ := pl_rng hb
  obtain ⟨lc, qc, mc, pc, eb, hlc, hqc, hmc, hpc⟩ := hI.pl hb
  refine P_aload_n d_CM_whole_0 rfl ?_
  refine P_getf (i := 0) d_CM_whole_1 ok_CM (by decide) L_CM_12 e0 rfl ?_
  refine P_iload_n d_CM_whole_4 rfl ?_
  refine P_callV (M := M_CM_whole) (pc := 5) (as := [.int a1]) (b := b) d_CM_whole_5 co_Plane_hasMap ok_Plane eb L_CM_151 im_Plane_hasMap se_Plane_hasMap (s_Plane_hasMap eb hlc hqc hmc hpc a1) rfl ⟨by decide, by decide⟩ ⟨by decide, by decide⟩ (by exact le_b rfl) ?_ _ rfl
  rintro _ u ⟨rfl, eu⟩
  subst u
  show PW _ _ _ _ _ _ (8, [(0, .ref 0), (1, .int a1), (2, .int a2)], [.int (bi (inN mc a1))], w)
  refine P_if_eq 21 d_CM_whole_8 (by decide) (fun c2 => ?_) (fun c2 => ?_)
  · refine P_iconst (v := (-1)) d_CM_whole_21 (by decide) ?_
    exact P_iret d_CM_whole_22 rfl (le_b rfl) (le_b rfl) ⟨⟨_, rfl⟩, hI, Fr.rf⟩
  · obtain ⟨a1N, ha1N, rfl⟩ := inN_of (bi_1 c2) (by omega)
    refine P_iload_n d_CM_whole_11 rfl ?_
    refine P_if_lt 21 d_CM_whole_12 (by decide) (fun c3 => ?_) (fun c3 => ?_)
    · refine P_iconst (v := (-1)) d_CM_whole_21 (by decide) ?_
      exact P_iret d_CM_whole_22 rfl (le_b rfl) (le_b rfl) ⟨⟨_, rfl⟩, hI, Fr.rf⟩
    · refine P_iload_n d_CM_whole_15 rfl ?_
      refine P_bipush (v := 9) d_CM_whole_16 (by decide) ?_
      refine P_icmp_le 23 d_CM_whole_18 (by decide) (fun c4 => ?_) (fun c4 => ?_)
      · obtain ⟨a2N, ha2N, rfl⟩ := nI_of_le (n := 9) c3 c4 rfl
        refine P_iconst (v := 0) d_CM_whole_23 (by decide) ?_
        refine P_istore_n d_CM_whole_24 (by decide) rfl ?_
        refine P_iload_n d_CM_whole_25 rfl ?_
        refine P_ineg d_CM_whole_26 ?_
        refine P_istore d_CM_whole_27 (by decide) rfl ?_
        rw [wh_0 a2N]
        refine PW_ind (σ := Int32 × pW) (2 * a2N + 1) (fun jj ss => I (ss.2) ∧ Fr SC w (ss.2)) (fun jj ss => (29, [(0, .ref 0), (1, .int (nI a1N)), (2, .int (nI a2N)), (3, .int ss.1), (4, .int (nI jj - nI a2N))], [], ss.2)) ?_ ?_ 0 (0, w) (by omega) ⟨hI, Fr.rf⟩
        · rintro ⟨j5_3, uj5⟩ ⟨hIj5, hFj5⟩
          show PW _ _ _ _ _ _ (29, [(0, .ref 0), (1, .int (nI a1N)), (2, .int (nI a2N)), (3, .int j5_3), (4, .int (nI (2 * a2N + 1) - nI a2N))], [], uj5)
          refine P_iload d_CM_whole_29 rfl ?_
          refine P_iload_n d_CM_whole_31 rfl ?_
          refine P_icmp_gt 105 d_CM_whole_32 (by decide) (fun _ => ?_) (fun h => absurd (wh_T (by omega)) h)
          refine P_iload_n d_CM_whole_105 rfl ?_
          exact P_iret d_CM_whole_106 rfl (le_b rfl) (le_b rfl) ⟨⟨_, rfl⟩, hIj5, hFj5⟩
        · rintro j5 ⟨j5_3, uj5⟩ hj5 ⟨hIj5, hFj5⟩ kkj5
          show PW _ _ _ _ _ _ (29, [(0, .ref 0), (1, .int (nI a1N)), (2, .int (nI a2N)), (3, .int j5_3), (4, .int (nI j5 - nI a2N))], [], uj5)
          refine P_iload d_CM_whole_29 rfl ?_
          refine P_iload_n d_CM_whole_31 rfl ?_
          refine P_icmp_gt 105 d_CM_whole_32 (by decide) (fun h => absurd h (wh_F (by omega) (by omega))) (fun _ => ?_)
          refine P_iload_n d_CM_whole_35 rfl ?_
          refine P_ineg d_CM_whole_36 ?_
          refine P_istore d_CM_whole_37 (by decide) rfl ?_
          rw [wh_0 a2N]
          refine PW_ind (σ := Int32 × pW) (2 * a2N + 1) (fun jj ss => I (ss.2) ∧ Fr SC w (ss.2)) (fun jj ss => (39, [(0, .ref 0), (1, .int (nI a1N)), (2, .int (nI a2N)), (3, .int ss.1), (4, .int (nI j5 - nI a2N)), (5, .int (nI jj - nI a2N))], [], ss.2)) ?_ ?_ 0 (j5_3, uj5) (by omega) ⟨hIj5, hFj5⟩
          · rintro ⟨j6_3, uj6⟩ ⟨hIj6, hFj6⟩
            show PW _ _ _ _ _ _ (39, [(0, .ref 0), (1, .int (nI a1N)), (2, .int (nI a2N)), (3, .int j6_3), (4, .int (nI j5 - nI a2N)), (5, .int (nI (2 * a2N + 1) - nI a2N))], [], uj6)
            refine P_iload d_CM_whole_39 rfl ?_
            refine P_iload_n d_CM_whole_41 rfl ?_
            refine P_icmp_gt 99 d_CM_whole_42 (by decide) (fun _ => ?_) (fun h => absurd (wh_T (by omega)) h)
            refine P_iinc (v := (nI j5 - nI a2N) + Int32.ofInt 1) d_CM_whole_99 (by decide) rfl rfl rfl ?_
            show PW _ _ _ _ _ _ (102, [(0, .ref 0), (1, .int (nI a1N)), (2, .int (nI a2N)), (3, .int j6_3), (4, .int ((nI j5 - nI a2N) + Int32.ofInt 1)), (5, .int (nI (2 * a2N + 1) - nI a2N))], [], uj6)
            refine P_goto 29 d_CM_whole_102 (by decide) ?_
            show PW _ _ _ _ _ _ (29, [(0, .ref 0), (1, .int (nI a1N)), (2, .int (nI a2N)), (3, .int j6_3), (4, .int ((nI j5 - nI a2N) + Int32.ofInt 1)), (5, .int (nI (2 * a2N + 1) - nI a2N))], [], uj6)
            refine PW.drop (lv' := [(0, .ref 0), (1, .int (nI a1N)), (2, .int (nI a2N)), (3, .int j6_3), (4, .int ((nI j5 - nI a2N) + Int32.ofInt 1))]) (by simp) ?_
            rw [wh_s j5 a2N]
            exact kkj5 (j6_3, uj6) ⟨hIj6, hFj6⟩
          · rintro j6 ⟨j6_3, uj6⟩ hj6 ⟨hIj6, hFj6⟩ kkj6
            show PW _ _ _ _ _ _ (39, [(0, .ref 0), (1, .int (nI a1N)), (2, .int (nI a2N)), (3, .int j6_3), (4, .int (nI j5 - nI a2N)), (5, .int (nI j6 - nI a2N))], [], uj6)
            refine P_iload d_CM_whole_39 rfl ?_
            refine P_iload_n d_CM_whole_41 rfl ?_
            refine P_icmp_gt 99 d_CM_whole_42 (by decide) (fun h => absurd h (wh_F (by omega) (by omega))) (fun _ => ?_)
            refine P_iload d_CM_whole_45 rfl ?_
            refine P_i2l d_CM_whole_47 ?_
            refine P_iload d_CM_whole_48 rfl ?_
            refine P_i2l d_CM_whole_50 ?_
            refine P_lconst (v := 1) d_CM_whole_51 (by decide) ?_
            refine P_aload_n d_CM_whole_52 rfl ?_
            refine P_getf (i := 11) d_CM_whole_53 ok_CM (by decide) L_CM_75 ((hFj6.2 _ (SC_f (by omega))).trans e0) rfl ?_
            obtain ⟨f7, f7e⟩ := hIj6.row (r := 452) (by decide) kc_452
            refine P_callS (M := M_CM_whole) (pc := 56) (as := [.long ((nI j5 - nI a2N).toInt64), .long ((nI j6 - nI a2N).toInt64), .long 1, .ref 452]) d_CM_whole_56 co_Rows_put L_CM_238 sm_Rows_put (v_Rows_put f7e (by decide) ((nI j5 - nI a2N).toInt64) ((nI j6 - nI a2N).toInt64) 1) rfl ⟨by decide, by decide⟩ ⟨by decide, by decide⟩ (by exact le_b rfl) ?_ _ rfl
            rintro _ w8 ⟨rfl, e8⟩
            have s8 := w_s e8
            generalize p3 _ _ _ _ = g9 at e8 s8
            have hI8 : I w8 := hIj6.setL e8 kc_452
            have hF8 : Fr SC w w8 := Fr.set hFj6 e8 (SC_t (by omega))
            show PW _ _ _ _ _ _ (59, [(0, .ref 0), (1, .int (nI a1N)), (2, .int (nI a2N)), (3, .int j6_3), (4, .int (nI j5 - nI a2N)), (5, .int (nI j6 - nI a2N))], [], w8)
            refine P_aload_n d_CM_whole_59 rfl ?_
            refine P_getf (i := 0) d_CM_whole_60 ok_CM (by decide) L_CM_12 ((hF8.2 _ (SC_f (by omega))).trans e0) rfl ?_
            refine P_getfN (i := 1) d_CM_whole_63 ok_Plane (by decide) L_CM_157 ((hF8.2 _ (SC_f (by omega))).trans eb) rfl ?_
            refine P_iload_n d_CM_whole_66 rfl ?_
            refine P_aald (j := a1N) (q := b + 2 + 1 + a1N) d_CM_whole_67 (hI8.ms hb) rfl (ix_nI (by omega)) (by omega) (rows_at (by omega)) ?_
            refine P_aload_n d_CM_whole_68 rfl ?_
            refine P_getf (i := 11) d_CM_whole_69 ok_CM (by decide) L_CM_75 ((hF8.2 _ (SC_f (by omega))).trans e0) rfl ?_
            refine P_aload_n d_CM_whole_72 rfl ?_
            refine P_getf (i := 12) d_CM_whole_73 ok_CM (by decide) L_CM_78 ((hF8.2 _ (SC_f (by omega))).trans e0) rfl ?_
            obtain ⟨f10, f10e⟩ := hI8.row (r := b + 2 + 1 + a1N) (by omega) (Kc_m hb (by omega))
            obtain ⟨f11, f11e⟩ := hI8.row (r := 453) (by decide) kc_453
            refine P_callS (M := M_CM_whole) (pc := 76) (as := [.ref (b + 2 + 1 + a1N), .ref 452, .ref 453]) d_CM_whole_76 co_Maps_apply L_CM_248 sm_Maps_apply (s_Maps_apply f10e s8 f11e (by decide) (by omega) (by decide)) rfl ⟨by decide, by decide⟩ ⟨by decide, by decide⟩ (by exact le_b rfl) ?_ _ rfl
            rintro _ w12 ⟨rfl, g12, e12⟩
            have s12 := w_s e12
            have hI12 : I w12 := hI8.setL e12 kc_453
            have hF12 : Fr SC w w12 := Fr.set hF8 e12 (SC_t (by omega))
            show PW _ _ _ _ _ _ (79, [(0, .ref 0), (1, .int (nI a1N)), (2, .int (nI a2N)), (3, .int j6_3), (4, .int (nI j5 - nI a2N)), (5, .int (nI j6 - nI a2N))], [], w12)
            refine P_aload_n d_CM_whole_79 rfl ?_
            refine P_getf (i := 12) d_CM_whole_80 ok_CM (by decide) L_CM_78 ((hF12.2 _ (SC_f (by omega))).trans e0) rfl ?_
            refine P_iconst (v := 2) d_CM_whole_83 (by decide) ?_
            refine P_lald (j := 2) d_CM_whole_84 s12 ⟨by decide, by decide⟩ (by decide) ?_
            refine P_lconst (v := 1) d_CM_whole_85 (by decide) ?_
            refine P_lcmp d_CM_whole_86 ?_
            refine P_if_ne 93 d_CM_whole_87 (by decide) (fun c13 => ?_) (fun c13 => ?_)
            · refine P_iinc (v := (nI j6 - nI a2N) + Int32.ofInt 1) d_CM_whole_93 (by decide) rfl rfl rfl ?_
              show PW _ _ _ _ _ _ (96, [(0, .ref 0), (1, .int (nI a1N)), (2, .int (nI a2N)), (3, .int j6_3), (4, .int (nI j5 - nI a2N)), (5, .int ((nI j6 - nI a2N) + Int32.ofInt 1))], [], w12)
              refine P_goto 39 d_CM_whole_96 (by decide) ?_
              show PW _ _ _ _ _ _ (39, [(0, .ref 0), (1, .int (nI a1N)), (2, .int (nI a2N)), (3, .int j6_3), (4, .int (nI j5 - nI a2N)), (5, .int ((nI j6 - nI a2N) + Int32.ofInt 1))], [], w12)
              rw [wh_s j6 a2N]
              exact kkj6 (j6_3, w12) ⟨hI12, hF12⟩
            · refine P_iinc (v := j6_3 + Int32.ofInt 1) d_CM_whole_90 (by decide) rfl rfl rfl ?_
              show PW _ _ _ _ _ _ (93, [(0, .ref 0), (1, .int (nI a1N)), (2, .int (nI a2N)), (3, .int (j6_3 + Int32.ofInt 1)), (4, .int (nI j5 - nI a2N)), (5, .int (nI j6 - nI a2N))], [], w12)
              refine P_iinc (v := (nI j6 - nI a2N) + Int32.ofInt 1) d_CM_whole_93 (by decide) rfl rfl rfl ?_
              show PW _ _ _ _ _ _ (96, [(0, .ref 0), (1, .int (nI a1N)), (2, .int (nI a2N)), (3, .int (j6_3 + Int32.ofInt 1)), (4, .int (nI j5 - nI a2N)), (5, .int ((nI j6 - nI a2N) + Int32.ofInt 1))], [], w12)
              refine P_goto 39 d_CM_whole_96 (by decide) ?_
              show PW _ _ _ _ _ _ (39, [(0, .ref 0), (1, .int (nI a1N)), (2, .int (nI a2N)), (3, .int (j6_3 + Int32.ofInt 1)), (4, .int (nI j5 - nI a2N)), (5, .int ((nI j6 - nI a2N) + Int32.ofInt 1))], [], w12)
              rw [wh_s j6 a2N]
              exact kkj6 (j6_3 + Int32.ofInt 1, w12) ⟨hI12, hF12⟩
      · refine P_iconst (v := (-1)) d_CM_whole_21 (by decide) ?_
        exact P_iret d_CM_whole_22 rfl (le_b rfl) (le_b rfl) ⟨⟨_, rfl⟩, hI, Fr.rf⟩
theorem s_CM_inside {G : pG} {w : pW} (hG : GO G) (hI : I w) (a1 : Int32) (a2 : Int32) : PM G M_CM_inside 3 0 0 [.ref 0, .int a1, .int a2] w (fun r w' => (∃ v, r = some (.int v)) ∧ I w' ∧ Fr SC w w') := by
  refine PM_of pn_CM_inside (le_b rfl) ?_
  show PW _ _ _ _ _ _ (0, [(0, .ref 0), (1, .int a1), (2, .int a2)], [], w)
  obtain ⟨b, hb, e0⟩ := hI.cm
  obtain ⟨hb1, hb2⟩ := pl_rng hb
  obtain ⟨lc, qc, mc, pc, eb, hlc, hqc, hmc, hpc⟩ := hI.pl hb
  refine P_aload_n d_CM_inside_0 rfl ?_
  refine P_getf (i := 0) d_CM_inside_1 ok_CM (by decide) L_CM_12 e0 rfl ?_
  refine P_iload_n d_CM_inside_4 rfl ?_
  refine P_callV (M := M_CM_inside) (pc := 5) (as := [.int a1]) (b := b) d_CM_inside_5 co_Plane_hasQuad ok_Plane eb L_CM_127 im_Plane_hasQuad se_Plane_hasQuad (s_Plane_hasQuad eb hlc hqc hmc hpc a1) rfl ⟨by decide, by decide⟩ ⟨by decide, by decide⟩ (by exact le_b rfl) ?_ _ rfl
  rintro _ u ⟨rfl, eu⟩
  subst u
  show PW _ _ _ _ _ _ (8, [(0, .ref 0), (1, .int a1), (2, .int a2)], [.int (bi (inN qc a1))], w)
  refine P_if_eq 22 d_CM_inside_8 (by decide) (fun c2 => ?_) (fun c2 => ?_)
  · refine P_iconst (v := (-1)) d_CM_inside_22 (by decide) ?_
    exact P_iret d_CM_inside_23 rfl (le_b rfl) (le_b rfl) ⟨⟨_, rfl⟩, hI, Fr.rf⟩
  · obtain ⟨a1N, ha1N, rfl⟩ := inN_of (bi_1 c2) (by omega)
    refine P_aload_n d_CM_inside_11 rfl ?_
    refine P_getf (i := 0) d_CM_inside_12 ok_CM (by decide) L_CM_12 e0 rfl ?_
    refine P_iload_n d_CM_inside_15 rfl ?_
    refine P_callV (M := M_CM_inside) (pc := 16) (as := [.int a2]) (b := b) d_CM_inside_16 co_Plane_hasPoint ok_Plane eb L_CM_160 im_Plane_hasPoint se_Plane_hasPoint (s_Plane_hasPoint eb hlc hqc hmc hpc a2) rfl ⟨by decide, by decide⟩ ⟨by decide, by decide⟩ (by exact le_b rfl) ?_ _ rfl
    rintro _ u ⟨rfl, eu⟩
    subst u
    show PW _ _ _ _ _ _ (19, [(0, .ref 0), (1, .int (nI a1N)), (2, .int a2)], [.int (bi (inN pc a2))], w)
    refine P_if_ne 24 d_CM_inside_19 (by decide) (fun c4 => ?_) (fun c4 => ?_)
    · obtain ⟨a2N, ha2N, rfl⟩ := inN_of (bi_1 c4) (by omega)
      refine P_aload_n d_CM_inside_24 rfl ?_
      refine P_getf (i := 0) d_CM_inside_25 ok_CM (by decide) L_CM_12 e0 rfl ?_
      refine P_getfN (i := 2) d_CM_inside_28 ok_Plane (by decide) L_CM_163 eb rfl ?_
      refine P_iload_n d_CM_inside_31 rfl ?_
      refine P_aald (j := a2N) (q := b + 19 + 1 + a2N) d_CM_inside_32 (hI.ps hb) rfl (ix_nI (by omega)) (by omega) (rows_at (by omega)) ?_
      obtain ⟨f5, f5e⟩ := hI.row (r := b + 19 + 1 + a2N) (by omega) (Kc_p hb (by omega))
      refine P_callS (M := M_CM_inside) (pc := 33) (as := [.ref (b + 19 + 1 + a2N)]) d_CM_inside_33 co_Rows_isFinite L_CM_283 sm_Rows_isFinite (s_Rows_isFinite f5e) rfl ⟨by decide, by decide⟩ ⟨by decide, by decide⟩ (by exact le_b rfl) ?_ _ rfl
      rintro _ u ⟨⟨v6, rfl⟩, eu⟩
      subst u
      show PW _ _ _ _ _ _ (36, [(0, .ref 0), (1, .int (nI a1N)), (2, .int (nI a2N))], [.int (bi v6)], w)
      refine P_if_ne 42 d_CM_inside_36 (by decide) (fun c7 => ?_) (fun c7 => ?_)
      · refine P_aload_n d_CM_inside_42 rfl ?_
        refine P_getf (i := 0) d_CM_inside_43 ok_CM (by decide) L_CM_12 e0 rfl ?_
        refine P_getfN (i := 0) d_CM_inside_46 ok_Plane (by decide) L_CM_142 eb rfl ?_
        refine P_iload_n d_CM_inside_49 rfl ?_
        refine P_aald (j := a1N) (q := b + 1 + 27 + 6 * a1N) d_CM_inside_50 (hI.qs hb) rfl (ix_nI (by omega)) (by omega) (pq_at (by omega)) ?_
        refine P_astore_n d_CM_inside_51 (by decide) rfl ?_
        refine P_aload_n d_CM_inside_52 rfl ?_
        refine P_callV (M := M_CM_inside) (pc := 53) (as := []) (b := b + 1 + 27 + 6 * a1N) d_CM_inside_53 co_Quad_leftTurns ok_Quad (hI.quad hb (by omega)) L_CM_166 im_Quad_leftTurns se_Quad_leftTurns (s_Quad_leftTurns (hI.quadS hb (q := a1N) (by omega))) rfl ⟨by decide, by decide⟩ ⟨by decide, by decide⟩ (by exact le_b rfl) ?_ _ rfl
        rintro _ u ⟨⟨v8, rfl⟩, eu⟩
        subst u
        show PW _ _ _ _ _ _ (56, [(0, .ref 0), (1, .int (nI a1N)), (2, .int (nI a2N)), (3, .ref (b + 1 + 27 + 6 * a1N))], [.int v8], w)
        refine P_callS (M := M_CM_inside) (pc := 56) (as := [.int v8]) d_CM_inside_56 co_Quad_formOf L_CM_170 sm_Quad_formOf (s_Quad_formOf v8) rfl ⟨by decide, by decide⟩ ⟨by decide, by decide⟩ (by exact le_b rfl) ?_ _ rfl
        rintro _ u ⟨⟨v9, rfl⟩, eu⟩
        subst u
        show PW _ _ _ _ _ _ (59, [(0, .ref 0), (1, .int (nI a1N)), (2, .int (nI a2N)), (3, .ref (b + 1 + 27 + 6 * a1N))], [.int v9], w)
        refine P_iconst (v := 2) d_CM_inside_59 (by decide) ?_
        refine P_icmp_ne 66 d_CM_inside_60 (by decide) (fun c10 => ?_) (fun c10 => ?_)
        · refine P_aload_n d_CM_inside_66 rfl ?_
          refine P_aload_n d_CM_inside_67 rfl ?_
          refine P_getf (i := 0) d_CM_inside_68 ok_CM (by decide) L_CM_12 e0 rfl ?_
          refine P_getfN (i := 2) d_CM_inside_71 ok_Plane (by decide) L_CM_163 eb rfl ?_
          refine P_iload_n d_CM_inside_74 rfl ?_
          refine P_aald (j := a2N) (q := b + 19 + 1 + a2N) d_CM_inside_75 (hI.ps hb) rfl (ix_nI (by omega)) (by omega) (rows_at (by omega)) ?_
          refine P_callV (M := M_CM_inside) (pc := 76) (as := [.ref (b + 19 + 1 + a2N)]) (b := b + 1 + 27 + 6 * a1N) d_CM_inside_76 co_Quad_hasOnSide ok_Quad (hI.quad hb (by omega)) L_CM_361 im_Quad_hasOnSide se_Quad_hasOnSide (s_Quad_hasOnSide (hI.quadS hb (q := a1N) (by omega)) f5e) rfl ⟨by decide, by decide⟩ ⟨by decide, by decide⟩ (by exact le_b rfl) ?_ _ rfl
          rintro _ u ⟨⟨v11, rfl⟩, eu⟩
          subst u
          show PW _ _ _ _ _ _ (79, [(0, .ref 0), (1, .int (nI a1N)), (2, .int (nI a2N)), (3, .ref (b + 1 + 27 + 6 * a1N))], [.int (bi v11)], w)
          refine P_if_eq 84 d_CM_inside_79 (by decide) (fun c12 => ?_) (fun c12 => ?_)
          · refine P_aload_n d_CM_inside_84 rfl ?_
            refine P_aload_n d_CM_inside_85 rfl ?_
            refine P_getf (i := 0) d_CM_inside_86 ok_CM (by decide) L_CM_12 e0 rfl ?_
            refine P_getfN (i := 2) d_CM_inside_89 ok_Plane (by decide) L_CM_163 eb rfl ?_
            refine P_iload_n d_CM_inside_92 rfl ?_
            refine P_aald (j := a2N) (q := b + 19 + 1 + a2N) d_CM_inside_93 (hI.ps hb) rfl (ix_nI (by omega)) (by omega) (rows_at (by omega)) ?_
            refine P_callV (M := M_CM_inside) (pc := 94) (as := [.ref (b + 19 + 1 + a2N)]) (b := b + 1 + 27 + 6 * a1N) d_CM_inside_94 co_Quad_surrounds ok_Quad (hI.quad hb (by omega)) L_CM_364 im_Quad_surrounds se_Quad_surrounds (s_Quad_surrounds (hI.quadS hb (q := a1N) (by omega)) f5e) rfl ⟨by decide, by decide⟩ ⟨by decide, by decide⟩ (by exact le_b rfl) ?_ _ rfl
            rintro _ u ⟨⟨v13, rfl⟩, eu⟩
            subst u
            show PW _ _ _ _ _ _ (97, [(0, .ref 0), (1, .int (nI a1N)), (2, .int (nI a2N)), (3, .ref (b + 1 + 27 + 6 * a1N))], [.int (bi v13)], w)
            refine P_callS (M := M_CM_inside) (pc := 97) (as := [.int (bi v13)]) d_CM_inside_97 co_CM_bit L_CM_290 sm_CM_bit (s_CM_bit (bi v13)) rfl ⟨by decide, by decide⟩ ⟨by decide, by decide⟩ (by exact le_b rfl) ?_ _ rfl
            rintro _ u ⟨⟨v14, rfl⟩, eu⟩
            subst u
            show PW _ _ _ _ _ _ (100, [(0, .ref 0), (1, .int (nI a1N)), (2, .int (nI a2N)), (3, .ref (b + 1 + 27 + 6 * a1N))], [.int v14], w)
            exact P_iret d_CM_inside_100 rfl (le_b rfl) (le_b rfl) ⟨⟨_, rfl⟩, hI, Fr.rf⟩
          · refine P_iconst (v := 2) d_CM_inside_82 (by decide) ?_
            exact P_iret d_CM_inside_83 rfl (le_b rfl) (le_b rfl) ⟨⟨_, rfl⟩, hI, Fr.rf⟩
        · refine P_bipush (v := (-3)) d_CM_inside_63 (by decide) ?_
          exact P_iret d_CM_inside_65 rfl (le_b rfl) (le_b rfl) ⟨⟨_, rfl⟩, hI, Fr.rf⟩
      · refine P_bipush (v := (-2)) d_CM_inside_39 (by decide) ?_
        exact P_iret d_CM_inside_41 rfl (le_b rfl) (le_b rfl) ⟨⟨_, rfl⟩, hI, Fr.rf⟩
    · refine P_iconst (v := (-1)) d_CM_inside_22 (by decide) ?_
      exact P_iret d_CM_inside_23 rfl (le_b rfl) (le_b rfl) ⟨⟨_, rfl⟩, hI, Fr.rf⟩
theorem s_CM_crossings {G : pG} {w : pW} (hG : GO G) (hI : I w) (a1 : Int32) (a2 : Int32) : PM G M_CM_crossings 3 0 0 [.ref 0, .int a1, .int a2] w (fun r w' => (∃ v, r = some (.int v)) ∧ I w' ∧ Fr SC w w') := by
  refine PM_of pn_CM_crossings (le_b rfl) ?_
  show PW _ _ _ _ _ _ (0, [(0, .ref 0), (1, .int a1), (2, .int a2)], [], w)
  obtain ⟨b, hb, e0⟩ := hI.cm
  obtain ⟨hb1, hb2⟩ := pl_rng hb
  obtain ⟨lc, qc, mc, pc, eb, hlc, hqc, hmc, hpc⟩ := hI.pl hb
  refine P_aload_n d_CM_crossings_0 rfl ?_
  refine P_getf (i := 0) d_CM_crossings_1 ok_CM (by decide) L_CM_12 e0 rfl ?_
  refine P_iload_n d_CM_crossings_4 rfl ?_
  refine P_callV (M := M_CM_crossings) (pc := 5) (as := [.int a1]) (b := b) d_CM_crossings_5 co_Plane_hasQuad ok_Plane eb L_CM_127 im_Plane_hasQuad se_Plane_hasQuad (s_Plane_hasQuad eb hlc hqc hmc hpc a1) rfl ⟨by decide, by decide⟩ ⟨by decide, by decide⟩ (by exact le_b rfl) ?_ _ rfl
  rintro _ u ⟨rfl, eu⟩
  subst u
  show PW _ _ _ _ _ _ (8, [(0, .ref 0), (1, .int a1), (2, .int a2)], [.int (bi (inN qc a1))], w)
  refine P_if_eq 22 d_CM_crossings_8 (by decide) (fun c2 => ?_) (fun c2 => ?_)
  · refine P_iconst (v := (-1)) d_CM_crossings_22 (by decide) ?_
    exact P_iret d_CM_crossings_23 rfl (le_b rfl) (le_b rfl) ⟨⟨_, rfl⟩, hI, Fr.rf⟩
  · obtain ⟨a1N, ha1N, rfl⟩ := inN_of (bi_1 c2) (by omega)
    refine P_aload_n d_CM_crossings_11 rfl ?_
    refine P_getf (i := 0) d_CM_crossings_12 ok_CM (by decide) L_CM_12 e0 rfl ?_
    refine P_iload_n d_CM_crossings_15 rfl ?_
    refine P_callV (M := M_CM_crossings) (pc := 16) (as := [.int a2]) (b := b) d_CM_crossings_16 co_Plane_hasQuad ok_Plane eb L_CM_127 im_Plane_hasQuad se_Plane_hasQuad (s_Plane_hasQuad eb hlc hqc hmc hpc a2) rfl ⟨by decide, by decide⟩ ⟨by decide, by decide⟩ (by exact le_b rfl) ?_ _ rfl
    rintro _ u ⟨rfl, eu⟩
    subst u
    show PW _ _ _ _ _ _ (19, [(0, .ref 0), (1, .int (nI a1N)), (2, .int a2)], [.int (bi (inN qc a2))], w)
    refine P_if_ne 24 d_CM_crossings_19 (by decide) (fun c4 => ?_) (fun c4 => ?_)
    · obtain ⟨a2N, ha2N, rfl⟩ := inN_of (bi_1 c4) (by omega)
      refine P_iconst (v := 0) d_CM_crossings_24 (by decide) ?_
      refine P_istore_n d_CM_crossings_25 (by decide) rfl ?_
      refine P_iconst (v := 0) d_CM_crossings_26 (by decide) ?_
      refine P_istore d_CM_crossings_27 (by decide) rfl ?_
      refine PW_ind (σ := Int32 × pW) (4) (fun jj ss => I (ss.2) ∧ Fr SC w (ss.2)) (fun jj ss => (29, [(0, .ref 0), (1, .int (nI a1N)), (2, .int (nI a2N)), (3, .int ss.1), (4, .int (nI jj))], [], ss.2)) ?_ ?_ 0 (0, w) (by omega) ⟨hI, Fr.rf⟩
      · rintro ⟨j5_3, uj5⟩ ⟨hIj5, hFj5⟩
        show PW _ _ _ _ _ _ (29, [(0, .ref 0), (1, .int (nI a1N)), (2, .int (nI a2N)), (3, .int j5_3), (4, .int 4)], [], uj5)
        refine P_iload d_CM_crossings_29 rfl ?_
        refine P_iconst (v := 4) d_CM_crossings_31 (by decide) ?_
        refine P_icmp_ge 87 d_CM_crossings_32 (by decide) (fun _ => ?_) (fun h => absurd (by decide) h)
        refine P_iload_n d_CM_crossings_87 rfl ?_
        exact P_iret d_CM_crossings_88 rfl (le_b rfl) (le_b rfl) ⟨⟨_, rfl⟩, hIj5, hFj5⟩
      · rintro j5 ⟨j5_3, uj5⟩ hj5 ⟨hIj5, hFj5⟩ kkj5
        show PW _ _ _ _ _ _ (29, [(0, .ref 0), (1, .int (nI a1N)), (2, .int (nI a2N)), (3, .int j5_3), (4, .int (nI j5))], [], uj5)
        refine P_iload d_CM_crossings_29 rfl ?_
        refine P_iconst (v := 4) d_CM_crossings_31 (by decide) ?_
        refine P_icmp_ge 87 d_CM_crossings_32 (by decide) (fun h => absurd h (nI_geF (a := j5) (b := 4) (by omega) (by omega))) (fun _ => ?_)
        refine P_iconst (v := 0) d_CM_crossings_35 (by decide) ?_
        refine P_istore d_CM_crossings_36 (by decide) rfl ?_
        refine PW_ind (σ := Int32 × pW) (4) (fun jj ss => I (ss.2) ∧ Fr SC w (ss.2)) (fun jj ss => (38, [(0, .ref 0), (1, .int (nI a1N)), (2, .int (nI a2N)), (3, .int ss.1), (4, .int (nI j5)), (5, .int (nI jj))], [], ss.2)) ?_ ?_ 0 (j5_3, uj5) (by omega) ⟨hIj5, hFj5⟩
        · rintro ⟨j6_3, uj6⟩ ⟨hIj6, hFj6⟩
          show PW _ _ _ _ _ _ (38, [(0, .ref 0), (1, .int (nI a1N)), (2, .int (nI a2N)), (3, .int j6_3), (4, .int (nI j5)), (5, .int 4)], [], uj6)
          refine P_iload d_CM_crossings_38 rfl ?_
          refine P_iconst (v := 4) d_CM_crossings_40 (by decide) ?_
          refine P_icmp_ge 81 d_CM_crossings_41 (by decide) (fun _ => ?_) (fun h => absurd (by decide) h)
          refine P_iinc (v := nI (j5 + 1)) d_CM_crossings_81 (by decide) rfl (nI_add j5 1) rfl ?_
          refine P_goto 29 d_CM_crossings_84 (by decide) ?_
          show PW _ _ _ _ _ _ (29, [(0, .ref 0), (1, .int (nI a1N)), (2, .int (nI a2N)), (3, .int j6_3), (4, .int (nI (j5 + 1))), (5, .int 4)], [], uj6)
          refine PW.drop (lv' := [(0, .ref 0), (1, .int (nI a1N)), (2, .int (nI a2N)), (3, .int j6_3), (4, .int (nI (j5 + 1)))]) (by simp) ?_
          exact kkj5 (j6_3, uj6) ⟨hIj6, hFj6⟩
        · rintro j6 ⟨j6_3, uj6⟩ hj6 ⟨hIj6, hFj6⟩ kkj6
          show PW _ _ _ _ _ _ (38, [(0, .ref 0), (1, .int (nI a1N)), (2, .int (nI a2N)), (3, .int j6_3), (4, .int (nI j5)), (5, .int (nI j6))], [], uj6)
          refine P_iload d_CM_crossings_38 rfl ?_
          refine P_iconst (v := 4) d_CM_crossings_40 (by decide) ?_
          refine P_icmp_ge 81 d_CM_crossings_41 (by decide) (fun h => absurd h (nI_geF (a := j6) (b := 4) (by omega) (by omega))) (fun _ => ?_)
          refine P_aload_n d_CM_crossings_44 rfl ?_
          refine P_getf (i := 0) d_CM_crossings_45 ok_CM (by decide) L_CM_12 ((hFj6.2 _ (SC_f (by omega))).trans e0) rfl ?_
          refine P_getfN (i := 0) d_CM_crossings_48 ok_Plane (by decide) L_CM_142 ((hFj6.2 _ (SC_f (by omega))).trans eb) rfl ?_
          refine P_iload_n d_CM_crossings_51 rfl ?_
          refine P_aald (j := a1N) (q := b + 1 + 27 + 6 * a1N) d_CM_crossings_52 (hIj6.qs hb) rfl (ix_nI (by omega)) (by omega) (pq_at (by omega)) ?_
          refine P_iload d_CM_crossings_53 rfl ?_
          refine P_aload_n d_CM_crossings_55 rfl ?_
          refine P_getf (i := 0) d_CM_crossings_56 ok_CM (by decide) L_CM_12 ((hFj6.2 _ (SC_f (by omega))).trans e0) rfl ?_
          refine P_getfN (i := 0) d_CM_crossings_59 ok_Plane (by decide) L_CM_142 ((hFj6.2 _ (SC_f (by omega))).trans eb) rfl ?_
          refine P_iload_n d_CM_crossings_62 rfl ?_
          refine P_aald (j := a2N) (q := b + 1 + 27 + 6 * a2N) d_CM_crossings_63 (hIj6.qs hb) rfl (ix_nI (by omega)) (by omega) (pq_at (by omega)) ?_
          refine P_iload d_CM_crossings_64 rfl ?_
          refine P_callV (M := M_CM_crossings) (pc := 66) (as := [.int (nI j5), .ref (b + 1 + 27 + 6 * a2N), .int (nI j6)]) (b := b + 1 + 27 + 6 * a1N) d_CM_crossings_66 co_Quad_touches ok_Quad (hIj6.quad hb (by omega)) L_CM_367 im_Quad_touches se_Quad_touches (s_Quad_touches (hIj6.quadS hb (q := a1N) (by omega)) j5 (by omega) (hIj6.quadS hb (q := a2N) (by omega)) j6 (by omega)) rfl ⟨by decide, by decide⟩ ⟨by decide, by decide⟩ (by exact le_b rfl) ?_ _ rfl
          rintro _ u ⟨⟨v7, rfl⟩, eu⟩
          subst u
          show PW _ _ _ _ _ _ (69, [(0, .ref 0), (1, .int (nI a1N)), (2, .int (nI a2N)), (3, .int j6_3), (4, .int (nI j5)), (5, .int (nI j6))], [.int (bi v7)], uj6)
          refine P_if_eq 75 d_CM_crossings_69 (by decide) (fun c8 => ?_) (fun c8 => ?_)
          · refine P_iinc (v := nI (j6 + 1)) d_CM_crossings_75 (by decide) rfl (nI_add j6 1) rfl ?_
            refine P_goto 38 d_CM_crossings_78 (by decide) ?_
            exact kkj6 (j6_3, uj6) ⟨hIj6, hFj6⟩
          · refine P_iinc (v := j6_3 + Int32.ofInt 1) d_CM_crossings_72 (by decide) rfl rfl rfl ?_
            show PW _ _ _ _ _ _ (75, [(0, .ref 0), (1, .int (nI a1N)), (2, .int (nI a2N)), (3, .int (j6_3 + Int32.ofInt 1)), (4, .int (nI j5)), (5, .int (nI j6))], [], uj6)
            refine P_iinc (v := nI (j6 + 1)) d_CM_crossings_75 (by decide) rfl (nI_add j6 1) rfl ?_
            refine P_goto 38 d_CM_crossings_78 (by decide) ?_
            exact kkj6 (j6_3 + Int32.ofInt 1, uj6) ⟨hIj6, hFj6⟩
    · refine P_iconst (v := (-1)) d_CM_crossings_22 (by decide) ?_
      exact P_iret d_CM_crossings_23 rfl (le_b rfl) (le_b rfl) ⟨⟨_, rfl⟩, hI, Fr.rf⟩
theorem s_CM_diagonal {G : pG} {w : pW} (hG : GO G) (hI : I w) (a1 : Int32) (a2 : Int32) (a3 : Int32) : PM G M_CM_diagonal 5 0 0 [.ref 0, .int a1, .int a2, .int a3] w (fun r w' => (∃ v, r = some (.long v)) ∧ I w' ∧ Fr SC w w') := by
  refine PM_of pn_CM_diagonal (le_b rfl) ?_
  show PW _ _ _ _ _ _ (0, [(0, .ref 0), (1, .int a1), (2, .int a2), (3, .int a3)], [], w)
  obtain ⟨b, hb, e0⟩ := hI.cm
  obtain ⟨hb1, hb2⟩ := pl_rng hb
  obtain ⟨lc, qc, mc, pc, eb, hlc, hqc, hmc, hpc⟩ := hI.pl hb
  refine P_aload_n d_CM_diagonal_0 rfl ?_
  refine P_getf (i := 0) d_CM_diagonal_1 ok_CM (by decide) L_CM_12 e0 rfl ?_
  refine P_iload_n d_CM_diagonal_4 rfl ?_
  refine P_callV (M := M_CM_diagonal) (pc := 5) (as := [.int a1]) (b := b) d_CM_diagonal_5 co_Plane_hasQuad ok_Plane eb L_CM_127 im_Plane_hasQuad se_Plane_hasQuad (s_Plane_hasQuad eb hlc hqc hmc hpc a1) rfl ⟨by decide, by decide⟩ ⟨by decide, by decide⟩ (by exact le_b rfl) ?_ _ rfl
  rintro _ u ⟨rfl, eu⟩
  subst u
  show PW _ _ _ _ _ _ (8, [(0, .ref 0), (1, .int a1), (2, .int a2), (3, .int a3)], [.int (bi (inN qc a1))], w)
  refine P_if_eq 25 d_CM_diagonal_8 (by decide) (fun c2 => ?_) (fun c2 => ?_)
  · refine P_ldc2 (v := (-9223372036854775808)) d_CM_diagonal_25 L_CM_270 ?_
    exact P_lret d_CM_diagonal_28 rfl (le_b rfl) (le_b rfl) ⟨⟨_, rfl⟩, hI, Fr.rf⟩
  · obtain ⟨a1N, ha1N, rfl⟩ := inN_of (bi_1 c2) (by omega)
    refine P_iload_n d_CM_diagonal_11 rfl ?_
    refine P_callS (M := M_CM_diagonal) (pc := 12) (as := [.int a2]) d_CM_diagonal_12 co_CM_isThird L_CM_154 sm_CM_isThird (s_CM_isThird a2) rfl ⟨by decide, by decide⟩ ⟨by decide, by decide⟩ (by exact le_b rfl) ?_ _ rfl
    rintro _ u ⟨rfl, eu⟩
    subst u
    show PW _ _ _ _ _ _ (15, [(0, .ref 0), (1, .int (nI a1N)), (2, .int a2), (3, .int a3)], [.int (bi (inN 3 a2))], w)
    refine P_if_eq 25 d_CM_diagonal_15 (by decide) (fun c4 => ?_) (fun c4 => ?_)
    · refine P_ldc2 (v := (-9223372036854775808)) d_CM_diagonal_25 L_CM_270 ?_
      exact P_lret d_CM_diagonal_28 rfl (le_b rfl) (le_b rfl) ⟨⟨_, rfl⟩, hI, Fr.rf⟩
    · obtain ⟨a2N, ha2N, rfl⟩ := inN_of (bi_1 c4) (by omega)
      refine P_iload_n d_CM_diagonal_18 rfl ?_
      refine P_callS (M := M_CM_diagonal) (pc := 19) (as := [.int a3]) d_CM_diagonal_19 co_CM_isThird L_CM_154 sm_CM_isThird (s_CM_isThird a3) rfl ⟨by decide, by decide⟩ ⟨by decide, by decide⟩ (by exact le_b rfl) ?_ _ rfl
      rintro _ u ⟨rfl, eu⟩
      subst u
      show PW _ _ _ _ _ _ (22, [(0, .ref 0), (1, .int (nI a1N)), (2, .int (nI a2N)), (3, .int a3)], [.int (bi (inN 3 a3))], w)
      refine P_if_ne 29 d_CM_diagonal_22 (by decide) (fun c6 => ?_) (fun c6 => ?_)
      · obtain ⟨a3N, ha3N, rfl⟩ := inN_of (bi_1 c6) (by omega)
        refine P_aload_n d_CM_diagonal_29 rfl ?_
        refine P_iload_n d_CM_diagonal_30 rfl ?_
        refine P_iload_n d_CM_diagonal_31 rfl ?_
        refine P_callV (M := M_CM_diagonal) (pc := 32) (as := [.int (nI a1N), .int (nI a2N)]) (b := 0) d_CM_diagonal_32 co_CM_meetSides ok_CM e0 L_CM_371 im_CM_meetSides se_CM_meetSides (s_CM_meetSides hG hI a1N (by omega) a2N (by omega)) rfl ⟨by decide, by decide⟩ ⟨by decide, by decide⟩ (by exact le_b rfl) ?_ _ rfl
        rintro _ w7 ⟨rfl, hI7, hG7⟩
        have hF7 : Fr SC w w7 := Fr.tr Fr.rf hG7
        show PW _ _ _ _ _ _ (35, [(0, .ref 0), (1, .int (nI a1N)), (2, .int (nI a2N)), (3, .int (nI a3N))], [], w7)
        refine P_aload_n d_CM_diagonal_35 rfl ?_
        refine P_getf (i := 12) d_CM_diagonal_36 ok_CM (by decide) L_CM_78 ((hF7.2 _ (SC_f (by omega))).trans e0) rfl ?_
        refine P_iload_n d_CM_diagonal_39 rfl ?_
        obtain ⟨f8, f8e⟩ := hI7.row (r := 453) (by decide) kc_453
        refine P_lald (j := a3N) d_CM_diagonal_40 f8e (ix_nI (by omega)) (by omega) ?_
        exact P_lret d_CM_diagonal_41 rfl (le_b rfl) (le_b rfl) ⟨⟨_, rfl⟩, hI7, hF7⟩
      · refine P_ldc2 (v := (-9223372036854775808)) d_CM_diagonal_25 L_CM_270 ?_
        exact P_lret d_CM_diagonal_28 rfl (le_b rfl) (le_b rfl) ⟨⟨_, rfl⟩, hI, Fr.rf⟩
theorem s_CM_parallel {G : pG} {w : pW} (hG : GO G) (hI : I w) (a1 : Int32) (a2 : Int32) : PM G M_CM_parallel 5 0 0 [.ref 0, .int a1, .int a2] w (fun r w' => (∃ v, r = some (.int v)) ∧ I w' ∧ Fr SC w w') := by
  refine PM_of pn_CM_parallel (le_b rfl) ?_
  show PW _ _ _ _ _ _ (0, [(0, .ref 0), (1, .int a1), (2, .int a2)], [], w)
  obtain ⟨b, hb, e0⟩ := hI.cm
  obtain ⟨hb1, hb2⟩ := pl_rng hb
  obtain ⟨lc, qc, mc, pc, eb, hlc, hqc, hmc, hpc⟩ := hI.pl hb
  refine P_aload_n d_CM_parallel_0 rfl ?_
  refine P_getf (i := 0) d_CM_parallel_1 ok_CM (by decide) L_CM_12 e0 rfl ?_
  refine P_iload_n d_CM_parallel_4 rfl ?_
  refine P_callV (M := M_CM_parallel) (pc := 5) (as := [.int a1]) (b := b) d_CM_parallel_5 co_Plane_hasMap ok_Plane eb L_CM_151 im_Plane_hasMap se_Plane_hasMap (s_Plane_hasMap eb hlc hqc hmc hpc a1) rfl ⟨by decide, by decide⟩ ⟨by decide, by decide⟩ (by exact le_b rfl) ?_ _ rfl
  rintro _ u ⟨rfl, eu⟩
  subst u
  show PW _ _ _ _ _ _ (8, [(0, .ref 0), (1, .int a1), (2, .int a2)], [.int (bi (inN mc a1))], w)
  refine P_if_eq 22 d_CM_parallel_8 (by decide) (fun c2 => ?_) (fun c2 => ?_)
  · refine P_iconst (v := (-1)) d_CM_parallel_22 (by decide) ?_
    exact P_iret d_CM_parallel_23 rfl (le_b rfl) (le_b rfl) ⟨⟨_, rfl⟩, hI, Fr.rf⟩
  · obtain ⟨a1N, ha1N, rfl⟩ := inN_of (bi_1 c2) (by omega)
    refine P_aload_n d_CM_parallel_11 rfl ?_
    refine P_getf (i := 0) d_CM_parallel_12 ok_CM (by decide) L_CM_12 e0 rfl ?_
    refine P_iload_n d_CM_parallel_15 rfl ?_
    refine P_callV (M := M_CM_parallel) (pc := 16) (as := [.int a2]) (b := b) d_CM_parallel_16 co_Plane_hasQuad ok_Plane eb L_CM_127 im_Plane_hasQuad se_Plane_hasQuad (s_Plane_hasQuad eb hlc hqc hmc hpc a2) rfl ⟨by decide, by decide⟩ ⟨by decide, by decide⟩ (by exact le_b rfl) ?_ _ rfl
    rintro _ u ⟨rfl, eu⟩
    subst u
    show PW _ _ _ _ _ _ (19, [(0, .ref 0), (1, .int (nI a1N)), (2, .int a2)], [.int (bi (inN qc a2))], w)
    refine P_if_ne 24 d_CM_parallel_19 (by decide) (fun c4 => ?_) (fun c4 => ?_)
    · obtain ⟨a2N, ha2N, rfl⟩ := inN_of (bi_1 c4) (by omega)
      refine P_iconst (v := 0) d_CM_parallel_24 (by decide) ?_
      refine P_istore_n d_CM_parallel_25 (by decide) rfl ?_
      refine P_iconst (v := 0) d_CM_parallel_26 (by decide) ?_
      refine P_istore d_CM_parallel_27 (by decide) rfl ?_
      refine PW_ind (σ := Int32 × pW) (2) (fun jj ss => I (ss.2) ∧ Fr SC w (ss.2)) (fun jj ss => (29, [(0, .ref 0), (1, .int (nI a1N)), (2, .int (nI a2N)), (3, .int ss.1), (4, .int (nI jj))], [], ss.2)) ?_ ?_ 0 (0, w) (by omega) ⟨hI, Fr.rf⟩
      · rintro ⟨j5_3, uj5⟩ ⟨hIj5, hFj5⟩
        show PW _ _ _ _ _ _ (29, [(0, .ref 0), (1, .int (nI a1N)), (2, .int (nI a2N)), (3, .int j5_3), (4, .int 2)], [], uj5)
        refine P_iload d_CM_parallel_29 rfl ?_
        refine P_iconst (v := 2) d_CM_parallel_31 (by decide) ?_
        refine P_icmp_ge 76 d_CM_parallel_32 (by decide) (fun _ => ?_) (fun h => absurd (by decide) h)
        refine P_iload_n d_CM_parallel_76 rfl ?_
        exact P_iret d_CM_parallel_77 rfl (le_b rfl) (le_b rfl) ⟨⟨_, rfl⟩, hIj5, hFj5⟩
      · rintro j5 ⟨j5_3, uj5⟩ hj5 ⟨hIj5, hFj5⟩ kkj5
        show PW _ _ _ _ _ _ (29, [(0, .ref 0), (1, .int (nI a1N)), (2, .int (nI a2N)), (3, .int j5_3), (4, .int (nI j5))], [], uj5)
        refine P_iload d_CM_parallel_29 rfl ?_
        refine P_iconst (v := 2) d_CM_parallel_31 (by decide) ?_
        refine P_icmp_ge 76 d_CM_parallel_32 (by decide) (fun h => absurd h (nI_geF (a := j5) (b := 2) (by omega) (by omega))) (fun _ => ?_)
        refine P_aload_n d_CM_parallel_35 rfl ?_
        refine P_iload_n d_CM_parallel_36 rfl ?_
        refine P_iload d_CM_parallel_37 rfl ?_
        refine P_callV (M := M_CM_parallel) (pc := 39) (as := [.int (nI a2N), .int (nI j5)]) (b := 0) d_CM_parallel_39 co_CM_meetSides ok_CM ((hFj5.2 _ (SC_f (by omega))).trans e0) L_CM_371 im_CM_meetSides se_CM_meetSides (s_CM_meetSides hG hIj5 a2N (by omega) j5 (by omega)) rfl ⟨by decide, by decide⟩ ⟨by decide, by decide⟩ (by exact le_b rfl) ?_ _ rfl
        rintro _ w6 ⟨rfl, hI6, hG6⟩
        have hF6 : Fr SC w w6 := Fr.tr hFj5 hG6
        show PW _ _ _ _ _ _ (42, [(0, .ref 0), (1, .int (nI a1N)), (2, .int (nI a2N)), (3, .int j5_3), (4, .int (nI j5))], [], w6)
        refine P_aload_n d_CM_parallel_42 rfl ?_
        refine P_getf (i := 0) d_CM_parallel_43 ok_CM (by decide) L_CM_12 ((hF6.2 _ (SC_f (by omega))).trans e0) rfl ?_
        refine P_getfN (i := 1) d_CM_parallel_46 ok_Plane (by decide) L_CM_157 ((hF6.2 _ (SC_f (by omega))).trans eb) rfl ?_
        refine P_iload_n d_CM_parallel_49 rfl ?_
        refine P_aald (j := a1N) (q := b + 2 + 1 + a1N) d_CM_parallel_50 (hI6.ms hb) rfl (ix_nI (by omega)) (by omega) (rows_at (by omega)) ?_
        refine P_aload_n d_CM_parallel_51 rfl ?_
        refine P_getf (i := 12) d_CM_parallel_52 ok_CM (by decide) L_CM_78 ((hF6.2 _ (SC_f (by omega))).trans e0) rfl ?_
        obtain ⟨f7, f7e⟩ := hI6.row (r := b + 2 + 1 + a1N) (by omega) (Kc_m hb (by omega))
        obtain ⟨f8, f8e⟩ := hI6.row (r := 453) (by decide) kc_453
        refine P_callS (M := M_CM_parallel) (pc := 55) (as := [.ref (b + 2 + 1 + a1N), .ref 453]) d_CM_parallel_55 co_Maps_height L_CM_375 sm_Maps_height (s_Maps_height f7e f8e) rfl ⟨by decide, by decide⟩ ⟨by decide, by decide⟩ (by exact le_b rfl) ?_ _ rfl
        rintro _ u ⟨⟨v9, rfl⟩, eu⟩
        subst u
        show PW _ _ _ _ _ _ (58, [(0, .ref 0), (1, .int (nI a1N)), (2, .int (nI a2N)), (3, .int j5_3), (4, .int (nI j5))], [.long v9], w6)
        refine P_lconst (v := 0) d_CM_parallel_58 (by decide) ?_
        refine P_lcmp d_CM_parallel_59 ?_
        refine P_if_ne 70 d_CM_parallel_60 (by decide) (fun c10 => ?_) (fun c10 => ?_)
        · refine P_iinc (v := nI (j5 + 1)) d_CM_parallel_70 (by decide) rfl (nI_add j5 1) rfl ?_
          refine P_goto 29 d_CM_parallel_73 (by decide) ?_
          exact kkj5 (j5_3, w6) ⟨hI6, hF6⟩
        · refine P_iload_n d_CM_parallel_63 rfl ?_
          refine P_iconst (v := 1) d_CM_parallel_64 (by decide) ?_
          refine P_iload d_CM_parallel_65 rfl ?_
          refine P_ishl d_CM_parallel_67 ?_
          generalize (1 : Int32) <<< ((nI j5) &&& 31) = zz11
          show PW _ _ _ _ _ _ (68, [(0, .ref 0), (1, .int (nI a1N)), (2, .int (nI a2N)), (3, .int j5_3), (4, .int (nI j5))], [.int zz11, .int j5_3], w6)
          refine P_ior d_CM_parallel_68 ?_
          generalize j5_3 ||| zz11 = zz12
          show PW _ _ _ _ _ _ (69, [(0, .ref 0), (1, .int (nI a1N)), (2, .int (nI a2N)), (3, .int j5_3), (4, .int (nI j5))], [.int zz12], w6)
          refine P_istore_n d_CM_parallel_69 (by decide) rfl ?_
          refine P_iinc (v := nI (j5 + 1)) d_CM_parallel_70 (by decide) rfl (nI_add j5 1) rfl ?_
          refine P_goto 29 d_CM_parallel_73 (by decide) ?_
          exact kkj5 (zz12, w6) ⟨hI6, hF6⟩
    · refine P_iconst (v := (-1)) d_CM_parallel_22 (by decide) ?_
      exact P_iret d_CM_parallel_23 rfl (le_b rfl) (le_b rfl) ⟨⟨_, rfl⟩, hI, Fr.rf⟩
theorem s_CM_shapeBy {G : pG} {w : pW} (hG : GO G) (hI : I w) (a1 : Int32) (a2 : Int32) : PM G M_CM_shapeBy 3 0 0 [.ref 0, .int a1, .int a2] w (fun r w' => (∃ v, r = some (.int v)) ∧ I w' ∧ Fr SC w w') := by
  refine PM_of pn_CM_shapeBy (le_b rfl) ?_
  show PW _ _ _ _ _ _ (0, [(0, .ref 0), (1, .int a1), (2, .int a2)], [], w)
  obtain ⟨b, hb, e0⟩ := hI.cm
  obtain ⟨hb1, hb2⟩ := pl_rng hb
  obtain ⟨lc, qc, mc, pc, eb, hlc, hqc, hmc, hpc⟩ := hI.pl hb
  refine P_aload_n d_CM_shapeBy_0 rfl ?_
  refine P_getf (i := 0) d_CM_shapeBy_1 ok_CM (by decide) L_CM_12 e0 rfl ?_
  refine P_iload_n d_CM_shapeBy_4 rfl ?_
  refine P_callV (M := M_CM_shapeBy) (pc := 5) (as := [.int a1]) (b := b) d_CM_shapeBy_5 co_Plane_hasMap ok_Plane eb L_CM_151 im_Plane_hasMap se_Plane_hasMap (s_Plane_hasMap eb hlc hqc hmc hpc a1) rfl ⟨by decide, by decide⟩ ⟨by decide, by decide⟩ (by exact le_b rfl) ?_ _ rfl
  rintro _ u ⟨rfl, eu⟩
  subst u
  show PW _ _ _ _ _ _ (8, [(0, .ref 0), (1, .int a1), (2, .int a2)], [.int (bi (inN mc a1))], w)
  refine P_if_eq 22 d_CM_shapeBy_8 (by decide) (fun c2 => ?_) (fun c2 => ?_)
  · refine P_iconst (v := (-1)) d_CM_shapeBy_22 (by decide) ?_
    exact P_iret d_CM_shapeBy_23 rfl (le_b rfl) (le_b rfl) ⟨⟨_, rfl⟩, hI, Fr.rf⟩
  · obtain ⟨a1N, ha1N, rfl⟩ := inN_of (bi_1 c2) (by omega)
    refine P_aload_n d_CM_shapeBy_11 rfl ?_
    refine P_getf (i := 0) d_CM_shapeBy_12 ok_CM (by decide) L_CM_12 e0 rfl ?_
    refine P_iload_n d_CM_shapeBy_15 rfl ?_
    refine P_callV (M := M_CM_shapeBy) (pc := 16) (as := [.int a2]) (b := b) d_CM_shapeBy_16 co_Plane_hasQuad ok_Plane eb L_CM_127 im_Plane_hasQuad se_Plane_hasQuad (s_Plane_hasQuad eb hlc hqc hmc hpc a2) rfl ⟨by decide, by decide⟩ ⟨by decide, by decide⟩ (by exact le_b rfl) ?_ _ rfl
    rintro _ u ⟨rfl, eu⟩
    subst u
    show PW _ _ _ _ _ _ (19, [(0, .ref 0), (1, .int (nI a1N)), (2, .int a2)], [.int (bi (inN qc a2))], w)
    refine P_if_ne 24 d_CM_shapeBy_19 (by decide) (fun c4 => ?_) (fun c4 => ?_)
    · obtain ⟨a2N, ha2N, rfl⟩ := inN_of (bi_1 c4) (by omega)
      refine P_aload_n d_CM_shapeBy_24 rfl ?_
      refine P_iload_n d_CM_shapeBy_25 rfl ?_
      refine P_iload_n d_CM_shapeBy_26 rfl ?_
      refine P_callV (M := M_CM_shapeBy) (pc := 27) (as := [.int (nI a1N), .int (nI a2N)]) (b := 0) d_CM_shapeBy_27 co_CM_keepsCorners ok_CM e0 L_CM_379 im_CM_keepsCorners se_CM_keepsCorners (s_CM_keepsCorners hG hI a1N (by omega) a2N (by omega)) rfl ⟨by decide, by decide⟩ ⟨by decide, by decide⟩ (by exact le_b rfl) ?_ _ rfl
      rintro _ w5 ⟨⟨v5, rfl⟩, hI5, hG5⟩
      have hF5 : Fr SC w w5 := Fr.tr Fr.rf hG5
      show PW _ _ _ _ _ _ (30, [(0, .ref 0), (1, .int (nI a1N)), (2, .int (nI a2N))], [.int (bi v5)], w5)
      refine P_if_ne 36 d_CM_shapeBy_30 (by decide) (fun c6 => ?_) (fun c6 => ?_)
      · refine P_aload_n d_CM_shapeBy_36 rfl ?_
        refine P_getf (i := 0) d_CM_shapeBy_37 ok_CM (by decide) L_CM_12 ((hF5.2 _ (SC_f (by omega))).trans e0) rfl ?_
        refine P_getfN (i := 0) d_CM_shapeBy_40 ok_Plane (by decide) L_CM_142 ((hF5.2 _ (SC_f (by omega))).trans eb) rfl ?_
        refine P_iload_n d_CM_shapeBy_43 rfl ?_
        refine P_aald (j := a2N) (q := b + 1 + 27 + 6 * a2N) d_CM_shapeBy_44 (hI5.qs hb) rfl (ix_nI (by omega)) (by omega) (pq_at (by omega)) ?_
        refine P_aload_n d_CM_shapeBy_45 rfl ?_
        refine P_getf (i := 0) d_CM_shapeBy_46 ok_CM (by decide) L_CM_12 ((hF5.2 _ (SC_f (by omega))).trans e0) rfl ?_
        refine P_getfN (i := 1) d_CM_shapeBy_49 ok_Plane (by decide) L_CM_157 ((hF5.2 _ (SC_f (by omega))).trans eb) rfl ?_
        refine P_iload_n d_CM_shapeBy_52 rfl ?_
        refine P_aald (j := a1N) (q := b + 2 + 1 + a1N) d_CM_shapeBy_53 (hI5.ms hb) rfl (ix_nI (by omega)) (by omega) (rows_at (by omega)) ?_
        obtain ⟨f7, f7e⟩ := hI5.row (r := b + 2 + 1 + a1N) (by omega) (Kc_m hb (by omega))
        refine P_callV (M := M_CM_shapeBy) (pc := 54) (as := [.ref (b + 2 + 1 + a1N)]) (b := b + 1 + 27 + 6 * a2N) d_CM_shapeBy_54 co_Quad_leftTurnsBy ok_Quad (hI5.quad hb (by omega)) L_CM_382 im_Quad_leftTurnsBy se_Quad_leftTurnsBy (s_Quad_leftTurnsBy (hI5.quadS hb (q := a2N) (by omega)) f7e) rfl ⟨by decide, by decide⟩ ⟨by decide, by decide⟩ (by exact le_b rfl) ?_ _ rfl
        rintro _ u ⟨⟨v8, rfl⟩, eu⟩
        subst u
        show PW _ _ _ _ _ _ (57, [(0, .ref 0), (1, .int (nI a1N)), (2, .int (nI a2N))], [.int v8], w5)
        refine P_callS (M := M_CM_shapeBy) (pc := 57) (as := [.int v8]) d_CM_shapeBy_57 co_Quad_formOf L_CM_170 sm_Quad_formOf (s_Quad_formOf v8) rfl ⟨by decide, by decide⟩ ⟨by decide, by decide⟩ (by exact le_b rfl) ?_ _ rfl
        rintro _ u ⟨⟨v9, rfl⟩, eu⟩
        subst u
        show PW _ _ _ _ _ _ (60, [(0, .ref 0), (1, .int (nI a1N)), (2, .int (nI a2N))], [.int v9], w5)
        exact P_iret d_CM_shapeBy_60 rfl (le_b rfl) (le_b rfl) ⟨⟨_, rfl⟩, hI5, hF5⟩
      · refine P_bipush (v := (-2)) d_CM_shapeBy_33 (by decide) ?_
        exact P_iret d_CM_shapeBy_35 rfl (le_b rfl) (le_b rfl) ⟨⟨_, rfl⟩, hI5, hF5⟩
    · refine P_iconst (v := (-1)) d_CM_shapeBy_22 (by decide) ?_
      exact P_iret d_CM_shapeBy_23 rfl (le_b rfl) (le_b rfl) ⟨⟨_, rfl⟩, hI, Fr.rf⟩
theorem s_CM_symmetries {G : pG} {w : pW} (hG : GO G) (hI : I w) (a1 : Int32) (a2 : Int32) : PM G M_CM_symmetries 5 0 0 [.ref 0, .int a1, .int a2] w (fun r w' => (∃ v, r = some (.int v)) ∧ I w' ∧ Fr SC w w') := by
  refine PM_of pn_CM_symmetries (le_b rfl) ?_
  show PW _ _ _ _ _ _ (0, [(0, .ref 0), (1, .int a1), (2, .int a2)], [], w)
  obtain ⟨b, hb, e0⟩ := hI.cm
  obtain ⟨hb1, hb2⟩ := pl_rng hb
  obtain ⟨lc, qc, mc, pc, eb, hlc, hqc, hmc, hpc⟩ := hI.pl hb
  refine P_aload_n d_CM_symmetries_0 rfl ?_
  refine P_getf (i := 0) d_CM_symmetries_1 ok_CM (by decide) L_CM_12 e0 rfl ?_
  refine P_iload_n d_CM_symmetries_4 rfl ?_
  refine P_callV (M := M_CM_symmetries) (pc := 5) (as := [.int a1]) (b := b) d_CM_symmetries_5 co_Plane_hasQuad ok_Plane eb L_CM_127 im_Plane_hasQuad se_Plane_hasQuad (s_Plane_hasQuad eb hlc hqc hmc hpc a1) rfl ⟨by decide, by decide⟩ ⟨by decide, by decide⟩ (by exact le_b rfl) ?_ _ rfl
  rintro _ u ⟨rfl, eu⟩
  subst u
  show PW _ _ _ _ _ _ (8, [(0, .ref 0), (1, .int a1), (2, .int a2)], [.int (bi (inN qc a1))], w)
  refine P_if_eq 18 d_CM_symmetries_8 (by decide) (fun c2 => ?_) (fun c2 => ?_)
  · refine P_iconst (v := (-1)) d_CM_symmetries_18 (by decide) ?_
    exact P_iret d_CM_symmetries_19 rfl (le_b rfl) (le_b rfl) ⟨⟨_, rfl⟩, hI, Fr.rf⟩
  · obtain ⟨a1N, ha1N, rfl⟩ := inN_of (bi_1 c2) (by omega)
    refine P_iload_n d_CM_symmetries_11 rfl ?_
    refine P_callS (M := M_CM_symmetries) (pc := 12) (as := [.int a2]) d_CM_symmetries_12 co_CM_isKind L_CM_385 sm_CM_isKind (s_CM_isKind a2) rfl ⟨by decide, by decide⟩ ⟨by decide, by decide⟩ (by exact le_b rfl) ?_ _ rfl
    rintro _ u ⟨rfl, eu⟩
    subst u
    show PW _ _ _ _ _ _ (15, [(0, .ref 0), (1, .int (nI a1N)), (2, .int a2)], [.int (bi (inN 6 a2))], w)
    refine P_if_ne 20 d_CM_symmetries_15 (by decide) (fun c4 => ?_) (fun c4 => ?_)
    · obtain ⟨a2N, ha2N, rfl⟩ := inN_of (bi_1 c4) (by omega)
      refine P_iconst (v := 0) d_CM_symmetries_20 (by decide) ?_
      refine P_istore_n d_CM_symmetries_21 (by decide) rfl ?_
      refine P_iconst (v := 0) d_CM_symmetries_22 (by decide) ?_
      refine P_istore d_CM_symmetries_23 (by decide) rfl ?_
      refine PW_ind (σ := Int32 × pW) (24) (fun jj ss => I (ss.2) ∧ Fr SC w (ss.2)) (fun jj ss => (25, [(0, .ref 0), (1, .int (nI a1N)), (2, .int (nI a2N)), (3, .int ss.1), (4, .int (nI jj))], [], ss.2)) ?_ ?_ 0 (0, w) (by omega) ⟨hI, Fr.rf⟩
      · rintro ⟨j5_3, uj5⟩ ⟨hIj5, hFj5⟩
        show PW _ _ _ _ _ _ (25, [(0, .ref 0), (1, .int (nI a1N)), (2, .int (nI a2N)), (3, .int j5_3), (4, .int 24)], [], uj5)
        refine P_iload d_CM_symmetries_25 rfl ?_
        refine P_bipush (v := 24) d_CM_symmetries_27 (by decide) ?_
        refine P_icmp_ge 83 d_CM_symmetries_29 (by decide) (fun _ => ?_) (fun h => absurd (by decide) h)
        refine P_iload_n d_CM_symmetries_83 rfl ?_
        exact P_iret d_CM_symmetries_84 rfl (le_b rfl) (le_b rfl) ⟨⟨_, rfl⟩, hIj5, hFj5⟩
      · rintro j5 ⟨j5_3, uj5⟩ hj5 ⟨hIj5, hFj5⟩ kkj5
        show PW _ _ _ _ _ _ (25, [(0, .ref 0), (1, .int (nI a1N)), (2, .int (nI a2N)), (3, .int j5_3), (4, .int (nI j5))], [], uj5)
        refine P_iload d_CM_symmetries_25 rfl ?_
        refine P_bipush (v := 24) d_CM_symmetries_27 (by decide) ?_
        refine P_icmp_ge 83 d_CM_symmetries_29 (by decide) (fun h => absurd h (nI_geF (a := j5) (b := 24) (by omega) (by omega))) (fun _ => ?_)
        refine P_aload_n d_CM_symmetries_32 rfl ?_
        refine P_getf (i := 5) d_CM_symmetries_33 ok_CM (by decide) L_CM_31 ((hFj5.2 _ (SC_f (by omega))).trans e0) rfl ?_
        refine P_aload_n d_CM_symmetries_36 rfl ?_
        refine P_getf (i := 0) d_CM_symmetries_37 ok_CM (by decide) L_CM_12 ((hFj5.2 _ (SC_f (by omega))).trans e0) rfl ?_
        refine P_getfN (i := 0) d_CM_symmetries_40 ok_Plane (by decide) L_CM_142 ((hFj5.2 _ (SC_f (by omega))).trans eb) rfl ?_
        refine P_iload_n d_CM_symmetries_43 rfl ?_
        refine P_aald (j := a1N) (q := b + 1 + 27 + 6 * a1N) d_CM_symmetries_44 (hIj5.qs hb) rfl (ix_nI (by omega)) (by omega) (pq_at (by omega)) ?_
        refine P_aload_n d_CM_symmetries_45 rfl ?_
        refine P_getf (i := 0) d_CM_symmetries_46 ok_CM (by decide) L_CM_12 ((hFj5.2 _ (SC_f (by omega))).trans e0) rfl ?_
        refine P_getfN (i := 0) d_CM_symmetries_49 ok_Plane (by decide) L_CM_142 ((hFj5.2 _ (SC_f (by omega))).trans eb) rfl ?_
        refine P_iload_n d_CM_symmetries_52 rfl ?_
        refine P_aald (j := a1N) (q := b + 1 + 27 + 6 * a1N) d_CM_symmetries_53 (hIj5.qs hb) rfl (ix_nI (by omega)) (by omega) (pq_at (by omega)) ?_
        refine P_iload d_CM_symmetries_54 rfl ?_
        refine P_aload_n d_CM_symmetries_56 rfl ?_
        refine P_getf (i := 8) d_CM_symmetries_57 ok_CM (by decide) L_CM_65 ((hFj5.2 _ (SC_f (by omega))).trans e0) rfl ?_
        refine P_callV (M := M_CM_symmetries) (pc := 60) (as := [.ref (b + 1 + 27 + 6 * a1N), .ref (b + 1 + 27 + 6 * a1N), .int (nI j5), .ref 449]) (b := 155) d_CM_symmetries_60 co_Maker_between ok_Maker (hIj5.mk) L_CM_184 im_Maker_between se_Maker_between (s_Maker_between hG hIj5 (QX_pl hb (q := a1N) (by omega)) (QX_pl hb (q := a1N) (by omega)) j5 (by omega) (by decide) kc_449 (by omega) (by omega)) rfl ⟨by decide, by decide⟩ ⟨by decide, by decide⟩ (by exact le_b rfl) ?_ _ rfl
        rintro _ w6 ⟨rfl, hI6, hG6⟩
        have hF6 : Fr SC w w6 := Fr.tr hFj5 hG6
        show PW _ _ _ _ _ _ (63, [(0, .ref 0), (1, .int (nI a1N)), (2, .int (nI a2N)), (3, .int j5_3), (4, .int (nI j5))], [], w6)
        refine P_aload_n d_CM_symmetries_63 rfl ?_
        refine P_getf (i := 8) d_CM_symmetries_64 ok_CM (by decide) L_CM_65 ((hF6.2 _ (SC_f (by omega))).trans e0) rfl ?_
        obtain ⟨f7, f7e⟩ := hI6.row (r := 449) (by decide) kc_449
        refine P_callS (M := M_CM_symmetries) (pc := 67) (as := [.ref 449]) d_CM_symmetries_67 co_Maps_kindOf L_CM_294 sm_Maps_kindOf (s_Maps_kindOf f7e) rfl ⟨by decide, by decide⟩ ⟨by decide, by decide⟩ (by exact le_b rfl) ?_ _ rfl
        rintro _ u ⟨⟨v8, rfl⟩, eu⟩
        subst u
        show PW _ _ _ _ _ _ (70, [(0, .ref 0), (1, .int (nI a1N)), (2, .int (nI a2N)), (3, .int j5_3), (4, .int (nI j5))], [.int v8], w6)
        refine P_iload_n d_CM_symmetries_70 rfl ?_
        refine P_icmp_gt 77 d_CM_symmetries_71 (by decide) (fun c9 => ?_) (fun c9 => ?_)
        · refine P_iinc (v := nI (j5 + 1)) d_CM_symmetries_77 (by decide) rfl (nI_add j5 1) rfl ?_
          refine P_goto 25 d_CM_symmetries_80 (by decide) ?_
          exact kkj5 (j5_3, w6) ⟨hI6, hF6⟩
        · refine P_iinc (v := j5_3 + Int32.ofInt 1) d_CM_symmetries_74 (by decide) rfl rfl rfl ?_
          show PW _ _ _ _ _ _ (77, [(0, .ref 0), (1, .int (nI a1N)), (2, .int (nI a2N)), (3, .int (j5_3 + Int32.ofInt 1)), (4, .int (nI j5))], [], w6)
          refine P_iinc (v := nI (j5 + 1)) d_CM_symmetries_77 (by decide) rfl (nI_add j5 1) rfl ?_
          refine P_goto 25 d_CM_symmetries_80 (by decide) ?_
          exact kkj5 (j5_3 + Int32.ofInt 1, w6) ⟨hI6, hF6⟩
    · refine P_iconst (v := (-1)) d_CM_symmetries_18 (by decide) ?_
      exact P_iret d_CM_symmetries_19 rfl (le_b rfl) (le_b rfl) ⟨⟨_, rfl⟩, hI, Fr.rf⟩
theorem s_CM_leads {G : pG} {w : pW} (hG : GO G) (hI : I w) (a1 : Int32) (a2 : Int32) (a3 : Int32) : PM G M_CM_leads 6 0 0 [.ref 0, .int a1, .int a2, .int a3] w (fun r w' => (∃ v, r = some (.int v)) ∧ I w' ∧ Fr SC w w') := by
  refine PM_of pn_CM_leads (le_b rfl) ?_
  show PW _ _ _ _ _ _ (0, [(0, .ref 0), (1, .int a1), (2, .int a2), (3, .int a3)], [], w)
  obtain ⟨b, hb, e0⟩ := hI.cm
  obtain ⟨hb1, hb2⟩ := pl_rng hb
  obtain ⟨lc, qc, mc, pc, eb, hlc, hqc, hmc, hpc⟩ := hI.pl hb
  refine P_aload_n d_CM_leads_0 rfl ?_
  refine P_getf (i := 0) d_CM_leads_1 ok_CM (by decide) L_CM_12 e0 rfl ?_
  refine P_iload_n d_CM_leads_4 rfl ?_
  refine P_callV (M := M_CM_leads) (pc := 5) (as := [.int a1]) (b := b) d_CM_leads_5 co_Plane_hasPoint ok_Plane eb L_CM_160 im_Plane_hasPoint se_Plane_hasPoint (s_Plane_hasPoint eb hlc hqc hmc hpc a1) rfl ⟨by decide, by decide⟩ ⟨by decide, by decide⟩ (by exact le_b rfl) ?_ _ rfl
  rintro _ u ⟨rfl, eu⟩
  subst u
  show PW _ _ _ _ _ _ (8, [(0, .ref 0), (1, .int a1), (2, .int a2), (3, .int a3)], [.int (bi (inN pc a1))], w)
  refine P_if_eq 32 d_CM_leads_8 (by decide) (fun c2 => ?_) (fun c2 => ?_)
  · refine P_iconst (v := (-1)) d_CM_leads_32 (by decide) ?_
    exact P_iret d_CM_leads_33 rfl (le_b rfl) (le_b rfl) ⟨⟨_, rfl⟩, hI, Fr.rf⟩
  · obtain ⟨a1N, ha1N, rfl⟩ := inN_of (bi_1 c2) (by omega)
    refine P_aload_n d_CM_leads_11 rfl ?_
    refine P_getf (i := 0) d_CM_leads_12 ok_CM (by decide) L_CM_12 e0 rfl ?_
    refine P_iload_n d_CM_leads_15 rfl ?_
    refine P_callV (M := M_CM_leads) (pc := 16) (as := [.int a2]) (b := b) d_CM_leads_16 co_Plane_hasPoint ok_Plane eb L_CM_160 im_Plane_hasPoint se_Plane_hasPoint (s_Plane_hasPoint eb hlc hqc hmc hpc a2) rfl ⟨by decide, by decide⟩ ⟨by decide, by decide⟩ (by exact le_b rfl) ?_ _ rfl
    rintro _ u ⟨rfl, eu⟩
    subst u
    show PW _ _ _ _ _ _ (19, [(0, .ref 0), (1, .int (nI a1N)), (2, .int a2), (3, .int a3)], [.int (bi (inN pc a2))], w)
    refine P_if_eq 32 d_CM_leads_19 (by decide) (fun c4 => ?_) (fun c4 => ?_)
    · refine P_iconst (v := (-1)) d_CM_leads_32 (by decide) ?_
      exact P_iret d_CM_leads_33 rfl (le_b rfl) (le_b rfl) ⟨⟨_, rfl⟩, hI, Fr.rf⟩
    · obtain ⟨a2N, ha2N, rfl⟩ := inN_of (bi_1 c4) (by omega)
      refine P_iload_n d_CM_leads_22 rfl ?_
      refine P_iconst (v := 1) d_CM_leads_23 (by decide) ?_
      refine P_icmp_lt 32 d_CM_leads_24 (by decide) (fun c5 => ?_) (fun c5 => ?_)
      · refine P_iconst (v := (-1)) d_CM_leads_32 (by decide) ?_
        exact P_iret d_CM_leads_33 rfl (le_b rfl) (le_b rfl) ⟨⟨_, rfl⟩, hI, Fr.rf⟩
      · refine P_iload_n d_CM_leads_27 rfl ?_
        refine P_iconst (v := 3) d_CM_leads_28 (by decide) ?_
        refine P_icmp_le 34 d_CM_leads_29 (by decide) (fun c6 => ?_) (fun c6 => ?_)
        · obtain ⟨a3N, ha3N, rfl⟩ := nI_of_le (n := 3) (lt_z (n := 1) c5 rfl) c6 rfl
          refine P_iconst (v := 0) d_CM_leads_34 (by decide) ?_
          refine P_istore d_CM_leads_35 (by decide) rfl ?_
          refine PW_ind (σ := pW) (mc) (fun jj ss => I (ss) ∧ Fr SC w (ss)) (fun jj ss => (37, [(0, .ref 0), (1, .int (nI a1N)), (2, .int (nI a2N)), (3, .int (nI a3N)), (4, .int (nI jj))], [], ss)) ?_ ?_ 0 (w) (by omega) ⟨hI, Fr.rf⟩
          · rintro uj7 ⟨hIj7, hFj7⟩
            show PW _ _ _ _ _ _ (37, [(0, .ref 0), (1, .int (nI a1N)), (2, .int (nI a2N)), (3, .int (nI a3N)), (4, .int (nI mc))], [], uj7)
            refine P_iload d_CM_leads_37 rfl ?_
            refine P_aload_n d_CM_leads_39 rfl ?_
            refine P_getf (i := 0) d_CM_leads_40 ok_CM (by decide) L_CM_12 ((hFj7.2 _ (SC_f (by omega))).trans e0) rfl ?_
            refine P_getfN (i := 5) d_CM_leads_43 ok_Plane (by decide) L_CM_225 ((hFj7.2 _ (SC_f (by omega))).trans eb) rfl ?_
            refine P_icmp_ge 88 d_CM_leads_46 (by decide) (fun _ => ?_) (fun h => absurd (Int32.le_refl _) h)
            refine P_bipush (v := (-2)) d_CM_leads_88 (by decide) ?_
            exact P_iret d_CM_leads_90 rfl (le_b rfl) (le_b rfl) ⟨⟨_, rfl⟩, hIj7, hFj7⟩
          · rintro j7 uj7 hj7 ⟨hIj7, hFj7⟩ kkj7
            show PW _ _ _ _ _ _ (37, [(0, .ref 0), (1, .int (nI a1N)), (2, .int (nI a2N)), (3, .int (nI a3N)), (4, .int (nI j7))], [], uj7)
            refine P_iload d_CM_leads_37 rfl ?_
            refine P_aload_n d_CM_leads_39 rfl ?_
            refine P_getf (i := 0) d_CM_leads_40 ok_CM (by decide) L_CM_12 ((hFj7.2 _ (SC_f (by omega))).trans e0) rfl ?_
            refine P_getfN (i := 5) d_CM_leads_43 ok_Plane (by decide) L_CM_225 ((hFj7.2 _ (SC_f (by omega))).trans eb) rfl ?_
            refine P_icmp_ge 88 d_CM_leads_46 (by decide) (fun h => absurd h (nI_geF (a := j7) (b := mc) (by omega) (by omega))) (fun _ => ?_)
            refine P_aload_n d_CM_leads_49 rfl ?_
            refine P_iload d_CM_leads_50 rfl ?_
            refine P_iload_n d_CM_leads_52 rfl ?_
            refine P_iload_n d_CM_leads_53 rfl ?_
            refine P_callV (M := M_CM_leads) (pc := 54) (as := [.int (nI j7), .int (nI a1N), .int (nI a3N)]) (b := 0) d_CM_leads_54 co_CM_follow ok_CM ((hFj7.2 _ (SC_f (by omega))).trans e0) L_CM_355 im_CM_follow se_CM_follow (s_CM_follow hG hIj7 j7 (by omega) a1N (by omega) a3N (by omega)) rfl ⟨by decide, by decide⟩ ⟨by decide, by decide⟩ (by exact le_b rfl) ?_ _ rfl
            rintro _ w8 ⟨⟨v8, rfl⟩, hI8, hG8⟩
            have hF8 : Fr SC w w8 := Fr.tr hFj7 hG8
            show PW _ _ _ _ _ _ (57, [(0, .ref 0), (1, .int (nI a1N)), (2, .int (nI a2N)), (3, .int (nI a3N)), (4, .int (nI j7))], [.int (bi v8)], w8)
            refine P_if_eq 82 d_CM_leads_57 (by decide) (fun c9 => ?_) (fun c9 => ?_)
            · refine P_iinc (v := nI (j7 + 1)) d_CM_leads_82 (by decide) rfl (nI_add j7 1) rfl ?_
              refine P_goto 37 d_CM_leads_85 (by decide) ?_
              exact kkj7 (w8) ⟨hI8, hF8⟩
            · refine P_aload_n d_CM_leads_60 rfl ?_
              refine P_getf (i := 13) d_CM_leads_61 ok_CM (by decide) L_CM_81 ((hF8.2 _ (SC_f (by omega))).trans e0) rfl ?_
              refine P_aload_n d_CM_leads_64 rfl ?_
              refine P_getf (i := 0) d_CM_leads_65 ok_CM (by decide) L_CM_12 ((hF8.2 _ (SC_f (by omega))).trans e0) rfl ?_
              refine P_getfN (i := 2) d_CM_leads_68 ok_Plane (by decide) L_CM_163 ((hF8.2 _ (SC_f (by omega))).trans eb) rfl ?_
              refine P_iload_n d_CM_leads_71 rfl ?_
              refine P_aald (j := a2N) (q := b + 19 + 1 + a2N) d_CM_leads_72 (hI8.ps hb) rfl (ix_nI (by omega)) (by omega) (rows_at (by omega)) ?_
              obtain ⟨f10, f10e⟩ := hI8.row (r := 454) (by decide) kc_454
              obtain ⟨f11, f11e⟩ := hI8.row (r := b + 19 + 1 + a2N) (by omega) (Kc_p hb (by omega))
              refine P_callS (M := M_CM_leads) (pc := 73) (as := [.ref 454, .ref (b + 19 + 1 + a2N)]) d_CM_leads_73 co_Rows_alike L_CM_306 sm_Rows_alike (s_Rows_alike (by decide) (by decide) f10e f11e) rfl ⟨by decide, by decide⟩ ⟨by decide, by decide⟩ (by exact le_b rfl) ?_ _ rfl
              rintro _ u ⟨⟨v12, rfl⟩, eu⟩
              subst u
              show PW _ _ _ _ _ _ (76, [(0, .ref 0), (1, .int (nI a1N)), (2, .int (nI a2N)), (3, .int (nI a3N)), (4, .int (nI j7))], [.int (bi v12)], w8)
              refine P_if_eq 82 d_CM_leads_76 (by decide) (fun c13 => ?_) (fun c13 => ?_)
              · refine P_iinc (v := nI (j7 + 1)) d_CM_leads_82 (by decide) rfl (nI_add j7 1) rfl ?_
                refine P_goto 37 d_CM_leads_85 (by decide) ?_
                exact kkj7 (w8) ⟨hI8, hF8⟩
              · refine P_iload d_CM_leads_79 rfl ?_
                exact P_iret d_CM_leads_81 rfl (le_b rfl) (le_b rfl) ⟨⟨_, rfl⟩, hI8, hF8⟩
        · refine P_iconst (v := (-1)) d_CM_leads_32 (by decide) ?_
          exact P_iret d_CM_leads_33 rfl (le_b rfl) (le_b rfl) ⟨⟨_, rfl⟩, hI, Fr.rf⟩
theorem s_CM_pull {G : pG} {w : pW} (hG : GO G) (hI : I w) (a1 : Int32) (a2 : Int32) (a3 : Int32) (a4 : Int32) (a5 : Int32) : PM G M_CM_pull 4 0 0 [.ref 0, .int a1, .int a2, .int a3, .int a4, .int a5] w (fun r w' => (∃ v, r = some (.long v)) ∧ I w' ∧ Fr SC w w') := by
  refine PM_of pn_CM_pull (le_b rfl) ?_
  show PW _ _ _ _ _ _ (0, [(0, .ref 0), (1, .int a1), (2, .int a2), (3, .int a3), (4, .int a4), (5, .int a5)], [], w)
  obtain ⟨b, hb, e0⟩ := hI.cm
  obtain ⟨hb1, hb2⟩ := pl_rng hb
  obtain ⟨lc, qc, mc, pc, eb, hlc, hqc, hmc, hpc⟩ := hI.pl hb
  refine P_aload_n d_CM_pull_0 rfl ?_
  refine P_getf (i := 0) d_CM_pull_1 ok_CM (by decide) L_CM_12 e0 rfl ?_
  refine P_iload_n d_CM_pull_4 rfl ?_
  refine P_callV (M := M_CM_pull) (pc := 5) (as := [.int a1]) (b := b) d_CM_pull_5 co_Plane_hasMap ok_Plane eb L_CM_151 im_Plane_hasMap se_Plane_hasMap (s_Plane_hasMap eb hlc hqc hmc hpc a1) rfl ⟨by decide, by decide⟩ ⟨by decide, by decide⟩ (by exact le_b rfl) ?_ _ rfl
  rintro _ u ⟨rfl, eu⟩
  subst u
  show PW _ _ _ _ _ _ (8, [(0, .ref 0), (1, .int a1), (2, .int a2), (3, .int a3), (4, .int a4), (5, .int a5)], [.int (bi (inN mc a1))], w)
  refine P_if_eq 29 d_CM_pull_8 (by decide) (fun c2 => ?_) (fun c2 => ?_)
  · refine P_ldc2 (v := (-9223372036854775808)) d_CM_pull_29 L_CM_270 ?_
    exact P_lret d_CM_pull_32 rfl (le_b rfl) (le_b rfl) ⟨⟨_, rfl⟩, hI, Fr.rf⟩
  · obtain ⟨a1N, ha1N, rfl⟩ := inN_of (bi_1 c2) (by omega)
    refine P_iload_n d_CM_pull_11 rfl ?_
    refine P_iload_n d_CM_pull_12 rfl ?_
    refine P_iload d_CM_pull_13 rfl ?_
    refine P_callS (M := M_CM_pull) (pc := 15) (as := [.int a2, .int a3, .int a4]) d_CM_pull_15 co_CM_isTriple L_CM_267 sm_CM_isTriple (s_CM_isTriple a2 a3 a4) rfl ⟨by decide, by decide⟩ ⟨by decide, by decide⟩ (by exact le_b rfl) ?_ _ rfl
    rintro _ u ⟨⟨v3, rfl⟩, eu⟩
    subst u
    show PW _ _ _ _ _ _ (18, [(0, .ref 0), (1, .int (nI a1N)), (2, .int a2), (3, .int a3), (4, .int a4), (5, .int a5)], [.int (bi v3)], w)
    refine P_if_eq 29 d_CM_pull_18 (by decide) (fun c4 => ?_) (fun c4 => ?_)
    · refine P_ldc2 (v := (-9223372036854775808)) d_CM_pull_29 L_CM_270 ?_
      exact P_lret d_CM_pull_32 rfl (le_b rfl) (le_b rfl) ⟨⟨_, rfl⟩, hI, Fr.rf⟩
    · refine P_iload d_CM_pull_21 rfl ?_
      refine P_callS (M := M_CM_pull) (pc := 23) (as := [.int a5]) d_CM_pull_23 co_CM_isThird L_CM_154 sm_CM_isThird (s_CM_isThird a5) rfl ⟨by decide, by decide⟩ ⟨by decide, by decide⟩ (by exact le_b rfl) ?_ _ rfl
      rintro _ u ⟨rfl, eu⟩
      subst u
      show PW _ _ _ _ _ _ (26, [(0, .ref 0), (1, .int (nI a1N)), (2, .int a2), (3, .int a3), (4, .int a4), (5, .int a5)], [.int (bi (inN 3 a5))], w)
      refine P_if_ne 33 d_CM_pull_26 (by decide) (fun c6 => ?_) (fun c6 => ?_)
      · obtain ⟨a5N, ha5N, rfl⟩ := inN_of (bi_1 c6) (by omega)
        refine P_iload_n d_CM_pull_33 rfl ?_
        refine P_i2l d_CM_pull_34 ?_
        refine P_iload_n d_CM_pull_35 rfl ?_
        refine P_i2l d_CM_pull_36 ?_
        refine P_iload d_CM_pull_37 rfl ?_
        refine P_i2l d_CM_pull_39 ?_
        refine P_aload_n d_CM_pull_40 rfl ?_
        refine P_getf (i := 11) d_CM_pull_41 ok_CM (by decide) L_CM_75 e0 rfl ?_
        obtain ⟨f7, f7e⟩ := hI.row (r := 452) (by decide) kc_452
        refine P_callS (M := M_CM_pull) (pc := 44) (as := [.long a2.toInt64, .long a3.toInt64, .long a4.toInt64, .ref 452]) d_CM_pull_44 co_Rows_put L_CM_238 sm_Rows_put (v_Rows_put f7e (by decide) a2.toInt64 a3.toInt64 a4.toInt64) rfl ⟨by decide, by decide⟩ ⟨by decide, by decide⟩ (by exact le_b rfl) ?_ _ rfl
        rintro _ w8 ⟨rfl, e8⟩
        have s8 := w_s e8
        generalize p3 _ _ _ _ = g9 at e8 s8
        have hI8 : I w8 := hI.setL e8 kc_452
        have hF8 : Fr SC w w8 := Fr.set Fr.rf e8 (SC_t (by omega))
        show PW _ _ _ _ _ _ (47, [(0, .ref 0), (1, .int (nI a1N)), (2, .int a2), (3, .int a3), (4, .int a4), (5, .int (nI a5N))], [], w8)
        refine P_aload_n d_CM_pull_47 rfl ?_
        refine P_getf (i := 0) d_CM_pull_48 ok_CM (by decide) L_CM_12 ((hF8.2 _ (SC_f (by omega))).trans e0) rfl ?_
        refine P_getfN (i := 1) d_CM_pull_51 ok_Plane (by decide) L_CM_157 ((hF8.2 _ (SC_f (by omega))).trans eb) rfl ?_
        refine P_iload_n d_CM_pull_54 rfl ?_
        refine P_aald (j := a1N) (q := b + 2 + 1 + a1N) d_CM_pull_55 (hI8.ms hb) rfl (ix_nI (by omega)) (by omega) (rows_at (by omega)) ?_
        refine P_aload_n d_CM_pull_56 rfl ?_
        refine P_getf (i := 11) d_CM_pull_57 ok_CM (by decide) L_CM_75 ((hF8.2 _ (SC_f (by omega))).trans e0) rfl ?_
        refine P_aload_n d_CM_pull_60 rfl ?_
        refine P_getf (i := 12) d_CM_pull_61 ok_CM (by decide) L_CM_78 ((hF8.2 _ (SC_f (by omega))).trans e0) rfl ?_
        obtain ⟨f10, f10e⟩ := hI8.row (r := b + 2 + 1 + a1N) (by omega) (Kc_m hb (by omega))
        obtain ⟨f11, f11e⟩ := hI8.row (r := 453) (by decide) kc_453
        refine P_callS (M := M_CM_pull) (pc := 64) (as := [.ref (b + 2 + 1 + a1N), .ref 452, .ref 453]) d_CM_pull_64 co_Maps_pullBack L_CM_277 sm_Maps_pullBack (s_Maps_pullBack f10e s8 f11e (by decide) (by omega) (by decide)) rfl ⟨by decide, by decide⟩ ⟨by decide, by decide⟩ (by exact le_b rfl) ?_ _ rfl
        rintro _ w12 ⟨rfl, g12, e12⟩
        have s12 := w_s e12
        have hI12 : I w12 := hI8.setL e12 kc_453
        have hF12 : Fr SC w w12 := Fr.set hF8 e12 (SC_t (by omega))
        show PW _ _ _ _ _ _ (67, [(0, .ref 0), (1, .int (nI a1N)), (2, .int a2), (3, .int a3), (4, .int a4), (5, .int (nI a5N))], [], w12)
        refine P_aload_n d_CM_pull_67 rfl ?_
        refine P_getf (i := 12) d_CM_pull_68 ok_CM (by decide) L_CM_78 ((hF12.2 _ (SC_f (by omega))).trans e0) rfl ?_
        refine P_iload d_CM_pull_71 rfl ?_
        refine P_lald (j := a5N) d_CM_pull_73 s12 (ix_nI (by omega)) (by omega) ?_
        exact P_lret d_CM_pull_74 rfl (le_b rfl) (le_b rfl) ⟨⟨_, rfl⟩, hI12, hF12⟩
      · refine P_ldc2 (v := (-9223372036854775808)) d_CM_pull_29 L_CM_270 ?_
        exact P_lret d_CM_pull_32 rfl (le_b rfl) (le_b rfl) ⟨⟨_, rfl⟩, hI, Fr.rf⟩
theorem s_CM_keepsLine {G : pG} {w : pW} (hG : GO G) (hI : I w) (a1 : Int32) (a2 : Int32) (a3 : Int32) (a4 : Int32) : PM G M_CM_keepsLine 4 0 0 [.ref 0, .int a1, .int a2, .int a3, .int a4] w (fun r w' => (∃ v, r = some (.int v)) ∧ I w' ∧ Fr SC w w') := by
  refine PM_of pn_CM_keepsLine (le_b rfl) ?_
  show PW _ _ _ _ _ _ (0, [(0, .ref 0), (1, .int a1), (2, .int a2), (3, .int a3), (4, .int a4)], [], w)
  obtain ⟨b, hb, e0⟩ := hI.cm
  obtain ⟨hb1, hb2⟩ := pl_rng hb
  obtain ⟨lc, qc, mc, pc, eb, hlc, hqc, hmc, hpc⟩ := hI.pl hb
  refine P_aload_n d_CM_keepsLine_0 rfl ?_
  refine P_getf (i := 0) d_CM_keepsLine_1 ok_CM (by decide) L_CM_12 e0 rfl ?_
  refine P_iload_n d_CM_keepsLine_4 rfl ?_
  refine P_callV (M := M_CM_keepsLine) (pc := 5) (as := [.int a1]) (b := b) d_CM_keepsLine_5 co_Plane_hasMap ok_Plane eb L_CM_151 im_Plane_hasMap se_Plane_hasMap (s_Plane_hasMap eb hlc hqc hmc hpc a1) rfl ⟨by decide, by decide⟩ ⟨by decide, by decide⟩ (by exact le_b rfl) ?_ _ rfl
  rintro _ u ⟨rfl, eu⟩
  subst u
  show PW _ _ _ _ _ _ (8, [(0, .ref 0), (1, .int a1), (2, .int a2), (3, .int a3), (4, .int a4)], [.int (bi (inN mc a1))], w)
  refine P_if_eq 21 d_CM_keepsLine_8 (by decide) (fun c2 => ?_) (fun c2 => ?_)
  · refine P_iconst (v := (-1)) d_CM_keepsLine_21 (by decide) ?_
    exact P_iret d_CM_keepsLine_22 rfl (le_b rfl) (le_b rfl) ⟨⟨_, rfl⟩, hI, Fr.rf⟩
  · obtain ⟨a1N, ha1N, rfl⟩ := inN_of (bi_1 c2) (by omega)
    refine P_iload_n d_CM_keepsLine_11 rfl ?_
    refine P_iload_n d_CM_keepsLine_12 rfl ?_
    refine P_iload d_CM_keepsLine_13 rfl ?_
    refine P_callS (M := M_CM_keepsLine) (pc := 15) (as := [.int a2, .int a3, .int a4]) d_CM_keepsLine_15 co_CM_isTriple L_CM_267 sm_CM_isTriple (s_CM_isTriple a2 a3 a4) rfl ⟨by decide, by decide⟩ ⟨by decide, by decide⟩ (by exact le_b rfl) ?_ _ rfl
    rintro _ u ⟨⟨v3, rfl⟩, eu⟩
    subst u
    show PW _ _ _ _ _ _ (18, [(0, .ref 0), (1, .int (nI a1N)), (2, .int a2), (3, .int a3), (4, .int a4)], [.int (bi v3)], w)
    refine P_if_ne 23 d_CM_keepsLine_18 (by decide) (fun c4 => ?_) (fun c4 => ?_)
    · refine P_iload_n d_CM_keepsLine_23 rfl ?_
      refine P_i2l d_CM_keepsLine_24 ?_
      refine P_iload_n d_CM_keepsLine_25 rfl ?_
      refine P_i2l d_CM_keepsLine_26 ?_
      refine P_iload d_CM_keepsLine_27 rfl ?_
      refine P_i2l d_CM_keepsLine_29 ?_
      refine P_aload_n d_CM_keepsLine_30 rfl ?_
      refine P_getf (i := 11) d_CM_keepsLine_31 ok_CM (by decide) L_CM_75 e0 rfl ?_
      obtain ⟨f5, f5e⟩ := hI.row (r := 452) (by decide) kc_452
      refine P_callS (M := M_CM_keepsLine) (pc := 34) (as := [.long a2.toInt64, .long a3.toInt64, .long a4.toInt64, .ref 452]) d_CM_keepsLine_34 co_Rows_put L_CM_238 sm_Rows_put (v_Rows_put f5e (by decide) a2.toInt64 a3.toInt64 a4.toInt64) rfl ⟨by decide, by decide⟩ ⟨by decide, by decide⟩ (by exact le_b rfl) ?_ _ rfl
      rintro _ w6 ⟨rfl, e6⟩
      have s6 := w_s e6
      generalize p3 _ _ _ _ = g7 at e6 s6
      have hI6 : I w6 := hI.setL e6 kc_452
      have hF6 : Fr SC w w6 := Fr.set Fr.rf e6 (SC_t (by omega))
      show PW _ _ _ _ _ _ (37, [(0, .ref 0), (1, .int (nI a1N)), (2, .int a2), (3, .int a3), (4, .int a4)], [], w6)
      refine P_aload_n d_CM_keepsLine_37 rfl ?_
      refine P_getf (i := 0) d_CM_keepsLine_38 ok_CM (by decide) L_CM_12 ((hF6.2 _ (SC_f (by omega))).trans e0) rfl ?_
      refine P_getfN (i := 1) d_CM_keepsLine_41 ok_Plane (by decide) L_CM_157 ((hF6.2 _ (SC_f (by omega))).trans eb) rfl ?_
      refine P_iload_n d_CM_keepsLine_44 rfl ?_
      refine P_aald (j := a1N) (q := b + 2 + 1 + a1N) d_CM_keepsLine_45 (hI6.ms hb) rfl (ix_nI (by omega)) (by omega) (rows_at (by omega)) ?_
      refine P_aload_n d_CM_keepsLine_46 rfl ?_
      refine P_getf (i := 11) d_CM_keepsLine_47 ok_CM (by decide) L_CM_75 ((hF6.2 _ (SC_f (by omega))).trans e0) rfl ?_
      refine P_aload_n d_CM_keepsLine_50 rfl ?_
      refine P_getf (i := 12) d_CM_keepsLine_51 ok_CM (by decide) L_CM_78 ((hF6.2 _ (SC_f (by omega))).trans e0) rfl ?_
      obtain ⟨f8, f8e⟩ := hI6.row (r := b + 2 + 1 + a1N) (by omega) (Kc_m hb (by omega))
      obtain ⟨f9, f9e⟩ := hI6.row (r := 453) (by decide) kc_453
      refine P_callS (M := M_CM_keepsLine) (pc := 54) (as := [.ref (b + 2 + 1 + a1N), .ref 452, .ref 453]) d_CM_keepsLine_54 co_Maps_pullBack L_CM_277 sm_Maps_pullBack (s_Maps_pullBack f8e s6 f9e (by decide) (by omega) (by decide)) rfl ⟨by decide, by decide⟩ ⟨by decide, by decide⟩ (by exact le_b rfl) ?_ _ rfl
      rintro _ w10 ⟨rfl, g10, e10⟩
      have s10 := w_s e10
      have hI10 : I w10 := hI6.setL e10 kc_453
      have hF10 : Fr SC w w10 := Fr.set hF6 e10 (SC_t (by omega))
      show PW _ _ _ _ _ _ (57, [(0, .ref 0), (1, .int (nI a1N)), (2, .int a2), (3, .int a3), (4, .int a4)], [], w10)
      refine P_aload_n d_CM_keepsLine_57 rfl ?_
      refine P_getf (i := 11) d_CM_keepsLine_58 ok_CM (by decide) L_CM_75 ((hF10.2 _ (SC_f (by omega))).trans e0) rfl ?_
      obtain ⟨f11, f11e⟩ := hI10.row (r := 452) (by decide) kc_452
      refine P_callS (M := M_CM_keepsLine) (pc := 61) (as := [.ref 452]) d_CM_keepsLine_61 co_Rows_reduce L_CM_352 sm_Rows_reduce (v_Rows_reduce f11e (by decide) (by decide) (by decide)) rfl ⟨by decide, by decide⟩ ⟨by decide, by decide⟩ (by exact le_b rfl) ?_ _ rfl
      rintro _ w12 ⟨rfl, e12⟩
      have s12 := w_s e12
      generalize rdC _ _ = g13 at e12 s12
      have hI12 : I w12 := hI10.setL e12 kc_452
      have hF12 : Fr SC w w12 := Fr.set hF10 e12 (SC_t (by omega))
      show PW _ _ _ _ _ _ (64, [(0, .ref 0), (1, .int (nI a1N)), (2, .int a2), (3, .int a3), (4, .int a4)], [], w12)
      refine P_aload_n d_CM_keepsLine_64 rfl ?_
      refine P_getf (i := 11) d_CM_keepsLine_65 ok_CM (by decide) L_CM_75 ((hF12.2 _ (SC_f (by omega))).trans e0) rfl ?_
      refine P_aload_n d_CM_keepsLine_68 rfl ?_
      refine P_getf (i := 12) d_CM_keepsLine_69 ok_CM (by decide) L_CM_78 ((hF12.2 _ (SC_f (by omega))).trans e0) rfl ?_
      obtain ⟨f14, f14e⟩ := hI12.row (r := 453) (by decide) kc_453
      refine P_callS (M := M_CM_keepsLine) (pc := 72) (as := [.ref 452, .ref 453]) d_CM_keepsLine_72 co_Rows_alike L_CM_306 sm_Rows_alike (s_Rows_alike (by decide) (by decide) s12 f14e) rfl ⟨by decide, by decide⟩ ⟨by decide, by decide⟩ (by exact le_b rfl) ?_ _ rfl
      rintro _ u ⟨⟨v15, rfl⟩, eu⟩
      subst u
      show PW _ _ _ _ _ _ (75, [(0, .ref 0), (1, .int (nI a1N)), (2, .int a2), (3, .int a3), (4, .int a4)], [.int (bi v15)], w12)
      refine P_callS (M := M_CM_keepsLine) (pc := 75) (as := [.int (bi v15)]) d_CM_keepsLine_75 co_CM_bit L_CM_290 sm_CM_bit (s_CM_bit (bi v15)) rfl ⟨by decide, by decide⟩ ⟨by decide, by decide⟩ (by exact le_b rfl) ?_ _ rfl
      rintro _ u ⟨⟨v16, rfl⟩, eu⟩
      subst u
      show PW _ _ _ _ _ _ (78, [(0, .ref 0), (1, .int (nI a1N)), (2, .int a2), (3, .int a3), (4, .int a4)], [.int v16], w12)
      exact P_iret d_CM_keepsLine_78 rfl (le_b rfl) (le_b rfl) ⟨⟨_, rfl⟩, hI12, hF12⟩
    · refine P_iconst (v := (-1)) d_CM_keepsLine_21 (by decide) ?_
      exact P_iret d_CM_keepsLine_22 rfl (le_b rfl) (le_b rfl) ⟨⟨_, rfl⟩, hI, Fr.rf⟩
theorem s_CM_side {G : pG} {w : pW} (hG : GO G) (hI : I w) (a1 : Int32) (a2 : Int32) (a3 : Int32) : PM G M_CM_side 4 0 0 [.ref 0, .int a1, .int a2, .int a3] w (fun r w' => (∃ v, r = some (.long v)) ∧ I w' ∧ Fr SC w w') := by
  refine PM_of pn_CM_side (le_b rfl) ?_
  show PW _ _ _ _ _ _ (0, [(0, .ref 0), (1, .int a1), (2, .int a2), (3, .int a3)], [], w)
  obtain ⟨b, hb, e0⟩ := hI.cm
  obtain ⟨hb1, hb2⟩ := pl_rng hb
  obtain ⟨lc, qc, mc, pc, eb, hlc, hqc, hmc, hpc⟩ := hI.pl hb
  refine P_aload_n d_CM_side_0 rfl ?_
  refine P_getf (i := 0) d_CM_side_1 ok_CM (by decide) L_CM_12 e0 rfl ?_
  refine P_iload_n d_CM_side_4 rfl ?_
  refine P_callV (M := M_CM_side) (pc := 5) (as := [.int a1]) (b := b) d_CM_side_5 co_Plane_hasQuad ok_Plane eb L_CM_127 im_Plane_hasQuad se_Plane_hasQuad (s_Plane_hasQuad eb hlc hqc hmc hpc a1) rfl ⟨by decide, by decide⟩ ⟨by decide, by decide⟩ (by exact le_b rfl) ?_ _ rfl
  rintro _ u ⟨rfl, eu⟩
  subst u
  show PW _ _ _ _ _ _ (8, [(0, .ref 0), (1, .int a1), (2, .int a2), (3, .int a3)], [.int (bi (inN qc a1))], w)
  refine P_if_eq 25 d_CM_side_8 (by decide) (fun c2 => ?_) (fun c2 => ?_)
  · refine P_ldc2 (v := (-9223372036854775808)) d_CM_side_25 L_CM_270 ?_
    exact P_lret d_CM_side_28 rfl (le_b rfl) (le_b rfl) ⟨⟨_, rfl⟩, hI, Fr.rf⟩
  · obtain ⟨a1N, ha1N, rfl⟩ := inN_of (bi_1 c2) (by omega)
    refine P_iload_n d_CM_side_11 rfl ?_
    refine P_callS (M := M_CM_side) (pc := 12) (as := [.int a2]) d_CM_side_12 co_CM_isCorner L_CM_130 sm_CM_isCorner (s_CM_isCorner a2) rfl ⟨by decide, by decide⟩ ⟨by decide, by decide⟩ (by exact le_b rfl) ?_ _ rfl
    rintro _ u ⟨rfl, eu⟩
    subst u
    show PW _ _ _ _ _ _ (15, [(0, .ref 0), (1, .int (nI a1N)), (2, .int a2), (3, .int a3)], [.int (bi (inN 4 a2))], w)
    refine P_if_eq 25 d_CM_side_15 (by decide) (fun c4 => ?_) (fun c4 => ?_)
    · refine P_ldc2 (v := (-9223372036854775808)) d_CM_side_25 L_CM_270 ?_
      exact P_lret d_CM_side_28 rfl (le_b rfl) (le_b rfl) ⟨⟨_, rfl⟩, hI, Fr.rf⟩
    · obtain ⟨a2N, ha2N, rfl⟩ := inN_of (bi_1 c4) (by omega)
      refine P_iload_n d_CM_side_18 rfl ?_
      refine P_callS (M := M_CM_side) (pc := 19) (as := [.int a3]) d_CM_side_19 co_CM_isThird L_CM_154 sm_CM_isThird (s_CM_isThird a3) rfl ⟨by decide, by decide⟩ ⟨by decide, by decide⟩ (by exact le_b rfl) ?_ _ rfl
      rintro _ u ⟨rfl, eu⟩
      subst u
      show PW _ _ _ _ _ _ (22, [(0, .ref 0), (1, .int (nI a1N)), (2, .int (nI a2N)), (3, .int a3)], [.int (bi (inN 3 a3))], w)
      refine P_if_ne 29 d_CM_side_22 (by decide) (fun c6 => ?_) (fun c6 => ?_)
      · obtain ⟨a3N, ha3N, rfl⟩ := inN_of (bi_1 c6) (by omega)
        refine P_aload_n d_CM_side_29 rfl ?_
        refine P_getf (i := 0) d_CM_side_30 ok_CM (by decide) L_CM_12 e0 rfl ?_
        refine P_getfN (i := 0) d_CM_side_33 ok_Plane (by decide) L_CM_142 eb rfl ?_
        refine P_iload_n d_CM_side_36 rfl ?_
        refine P_aald (j := a1N) (q := b + 1 + 27 + 6 * a1N) d_CM_side_37 (hI.qs hb) rfl (ix_nI (by omega)) (by omega) (pq_at (by omega)) ?_
        refine P_getfN (i := 0) d_CM_side_38 ok_Quad (by decide) L_CM_146 (hI.quad hb (by omega)) rfl ?_
        refine P_astore d_CM_side_41 (by decide) rfl ?_
        refine P_aload d_CM_side_43 rfl ?_
        refine P_iload_n d_CM_side_45 rfl ?_
        refine P_aald (j := a2N) (q := b + 1 + 27 + 6 * a1N + 1 + 1 + a2N) d_CM_side_46 (hI.rows (by omega) (Kc_q hb (by omega)).2.1) rfl (ix_nI (by omega)) (by omega) (rows_at (by omega)) ?_
        refine P_aload d_CM_side_47 rfl ?_
        refine P_iload_n d_CM_side_49 rfl ?_
        refine P_iconst (v := 1) d_CM_side_50 (by decide) ?_
        refine P_iaddN (a := a2N) (b := 1) d_CM_side_51 ?_
        show PW _ _ _ _ _ _ (52, [(0, .ref 0), (1, .int (nI a1N)), (2, .int (nI a2N)), (3, .int (nI a3N)), (4, .ref (b + 1 + 27 + 6 * a1N + 1))], [.int (nI (a2N + 1)), .ref (b + 1 + 27 + 6 * a1N + 1), .ref (b + 1 + 27 + 6 * a1N + 1 + 1 + a2N)], w)
        refine P_iconst (v := 3) d_CM_side_52 (by decide) ?_
        refine P_iandN (a := (a2N + 1)) (m := 3) 2 d_CM_side_53 (by omega) (by decide) ?_
        show PW _ _ _ _ _ _ (54, [(0, .ref 0), (1, .int (nI a1N)), (2, .int (nI a2N)), (3, .int (nI a3N)), (4, .ref (b + 1 + 27 + 6 * a1N + 1))], [.int (nI ((a2N + 1) % 4)), .ref (b + 1 + 27 + 6 * a1N + 1), .ref (b + 1 + 27 + 6 * a1N + 1 + 1 + a2N)], w)
        refine P_aald (j := (a2N + 1) % 4) (q := b + 1 + 27 + 6 * a1N + 1 + 1 + ((a2N + 1) % 4)) d_CM_side_54 (hI.rows (by omega) (Kc_q hb (by omega)).2.1) rfl (ix_nI (by omega)) (by omega) (rows_at (by omega)) ?_
        refine P_aload_n d_CM_side_55 rfl ?_
        refine P_getf (i := 12) d_CM_side_56 ok_CM (by decide) L_CM_78 e0 rfl ?_
        obtain ⟨f7, f7e⟩ := hI.row (r := b + 1 + 27 + 6 * a1N + 1 + 1 + a2N) (by omega) ((Kc_q hb (by omega)).2.2 _ (by omega))
        obtain ⟨f8, f8e⟩ := hI.row (r := b + 1 + 27 + 6 * a1N + 1 + 1 + ((a2N + 1) % 4)) (by omega) ((Kc_q hb (by omega)).2.2 _ (by omega))
        obtain ⟨f9, f9e⟩ := hI.row (r := 453) (by decide) kc_453
        refine P_callS (M := M_CM_side) (pc := 59) (as := [.ref (b + 1 + 27 + 6 * a1N + 1 + 1 + a2N), .ref (b + 1 + 27 + 6 * a1N + 1 + 1 + ((a2N + 1) % 4)), .ref 453]) d_CM_side_59 co_Rows_through L_CM_324 sm_Rows_through (s_Rows_through f7e f8e f9e (by decide) (by omega) (by omega)) rfl ⟨by decide, by decide⟩ ⟨by decide, by decide⟩ (by exact le_b rfl) ?_ _ rfl
        rintro _ w10 ⟨⟨v10, rfl⟩, g10, e10⟩
        have s10 := w_s e10
        have hI10 : I w10 := hI.setL e10 kc_453
        have hF10 : Fr SC w w10 := Fr.set Fr.rf e10 (SC_t (by omega))
        show PW _ _ _ _ _ _ (62, [(0, .ref 0), (1, .int (nI a1N)), (2, .int (nI a2N)), (3, .int (nI a3N)), (4, .ref (b + 1 + 27 + 6 * a1N + 1))], [.int (bi v10)], w10)
        refine P_pop d_CM_side_62 rfl ?_
        refine P_aload_n d_CM_side_63 rfl ?_
        refine P_getf (i := 12) d_CM_side_64 ok_CM (by decide) L_CM_78 ((hF10.2 _ (SC_f (by omega))).trans e0) rfl ?_
        refine P_iload_n d_CM_side_67 rfl ?_
        refine P_lald (j := a3N) d_CM_side_68 s10 (ix_nI (by omega)) (by omega) ?_
        exact P_lret d_CM_side_69 rfl (le_b rfl) (le_b rfl) ⟨⟨_, rfl⟩, hI10, hF10⟩
      · refine P_ldc2 (v := (-9223372036854775808)) d_CM_side_25 L_CM_270 ?_
        exact P_lret d_CM_side_28 rfl (le_b rfl) (le_b rfl) ⟨⟨_, rfl⟩, hI, Fr.rf⟩
theorem s_CM_turnOf {G : pG} {w : pW} (hG : GO G) (hI : I w) (a1 : Int32) (a2 : Int32) (a3 : Int32) : PM G M_CM_turnOf 2 0 0 [.ref 0, .int a1, .int a2, .int a3] w (fun r w' => (∃ v, r = some (.int v)) ∧ I w' ∧ Fr SC w w') := by
  refine PM_of pn_CM_turnOf (le_b rfl) ?_
  show PW _ _ _ _ _ _ (0, [(0, .ref 0), (1, .int a1), (2, .int a2), (3, .int a3)], [], w)
  obtain ⟨b, hb, e0⟩ := hI.cm
  obtain ⟨hb1, hb2⟩ := pl_rng hb
  obtain ⟨lc, qc, mc, pc, eb, hlc, hqc, hmc, hpc⟩ := hI.pl hb
  refine P_aload_n d_CM_turnOf_0 rfl ?_
  refine P_iload_n d_CM_turnOf_1 rfl ?_
  refine P_callV (M := M_CM_turnOf) (pc := 2) (as := [.int a1]) (b := 0) d_CM_turnOf_2 co_CM_isFar ok_CM e0 L_CM_398 im_CM_isFar se_CM_isFar (s_CM_isFar hG hI a1) rfl ⟨by decide, by decide⟩ ⟨by decide, by decide⟩ (by exact le_b rfl) ?_ _ rfl
  rintro _ w1 ⟨⟨v1, rfl⟩, hI1, hG1⟩
  have hF1 : Fr SC w w1 := Fr.tr Fr.rf hG1
  show PW _ _ _ _ _ _ (5, [(0, .ref 0), (1, .int a1), (2, .int a2), (3, .int a3)], [.int (bi v1)], w1)
  refine P_if_ne 24 d_CM_turnOf_5 (by decide) (fun c2 => ?_) (fun c2 => ?_)
  · refine P_bipush (v := (-2)) d_CM_turnOf_24 (by decide) ?_
    exact P_iret d_CM_turnOf_26 rfl (le_b rfl) (le_b rfl) ⟨⟨_, rfl⟩, hI1, hF1⟩
  · refine P_aload_n d_CM_turnOf_8 rfl ?_
    refine P_iload_n d_CM_turnOf_9 rfl ?_
    refine P_callV (M := M_CM_turnOf) (pc := 10) (as := [.int a2]) (b := 0) d_CM_turnOf_10 co_CM_isFar ok_CM ((hF1.2 _ (SC_f (by omega))).trans e0) L_CM_398 im_CM_isFar se_CM_isFar (s_CM_isFar hG hI1 a2) rfl ⟨by decide, by decide⟩ ⟨by decide, by decide⟩ (by exact le_b rfl) ?_ _ rfl
    rintro _ w3 ⟨⟨v3, rfl⟩, hI3, hG3⟩
    have hF3 : Fr SC w w3 := Fr.tr hF1 hG3
    show PW _ _ _ _ _ _ (13, [(0, .ref 0), (1, .int a1), (2, .int a2), (3, .int a3)], [.int (bi v3)], w3)
    refine P_if_ne 24 d_CM_turnOf_13 (by decide) (fun c4 => ?_) (fun c4 => ?_)
    · refine P_bipush (v := (-2)) d_CM_turnOf_24 (by decide) ?_
      exact P_iret d_CM_turnOf_26 rfl (le_b rfl) (le_b rfl) ⟨⟨_, rfl⟩, hI3, hF3⟩
    · refine P_aload_n d_CM_turnOf_16 rfl ?_
      refine P_iload_n d_CM_turnOf_17 rfl ?_
      refine P_callV (M := M_CM_turnOf) (pc := 18) (as := [.int a3]) (b := 0) d_CM_turnOf_18 co_CM_isFar ok_CM ((hF3.2 _ (SC_f (by omega))).trans e0) L_CM_398 im_CM_isFar se_CM_isFar (s_CM_isFar hG hI3 a3) rfl ⟨by decide, by decide⟩ ⟨by decide, by decide⟩ (by exact le_b rfl) ?_ _ rfl
      rintro _ w5 ⟨⟨v5, rfl⟩, hI5, hG5⟩
      have hF5 : Fr SC w w5 := Fr.tr hF3 hG5
      show PW _ _ _ _ _ _ (21, [(0, .ref 0), (1, .int a1), (2, .int a2), (3, .int a3)], [.int (bi v5)], w5)
      refine P_if_eq 27 d_CM_turnOf_21 (by decide) (fun c6 => ?_) (fun c6 => ?_)
      · refine P_aload_n d_CM_turnOf_27 rfl ?_
        refine P_iload_n d_CM_turnOf_28 rfl ?_
        refine P_iload_n d_CM_turnOf_29 rfl ?_
        refine P_iload_n d_CM_turnOf_30 rfl ?_
        refine P_iload_n d_CM_turnOf_31 rfl ?_
        refine P_callV (M := M_CM_turnOf) (pc := 32) (as := [.int a1, .int a2, .int a3, .int a3]) (b := 0) d_CM_turnOf_32 co_CM_arePoints ok_CM ((hF5.2 _ (SC_f (by omega))).trans e0) L_CM_330 im_CM_arePoints se_CM_arePoints (s_CM_arePoints ((hF5.2 _ (SC_f (by omega))).trans e0) ((hF5.2 _ (SC_f (by omega))).trans eb) hlc hqc hmc hpc a1 a2 a3 a3) rfl ⟨by decide, by decide⟩ ⟨by decide, by decide⟩ (by exact le_b rfl) ?_ _ rfl
        rintro _ u ⟨rfl, eu⟩
        subst u
        show PW _ _ _ _ _ _ (35, [(0, .ref 0), (1, .int a1), (2, .int a2), (3, .int a3)], [.int (bi (inN pc a1 && inN pc a2 && inN pc a3 && inN pc a3))], w5)
        refine P_if_ne 41 d_CM_turnOf_35 (by decide) (fun c8 => ?_) (fun c8 => ?_)
        · have ac8 := bi_1 c8
          simp only [Bool.and_eq_true] at ac8
          obtain ⟨⟨⟨ac8_0, ac8_1⟩, ac8_2⟩, ac8_3⟩ := ac8
          obtain ⟨a1N, ha1N, rfl⟩ := inN_of ac8_0 (by omega)
          obtain ⟨a2N, ha2N, rfl⟩ := inN_of ac8_1 (by omega)
          obtain ⟨a3N, ha3N, rfl⟩ := inN_of ac8_2 (by omega)
          refine P_aload_n d_CM_turnOf_41 rfl ?_
          refine P_getf (i := 0) d_CM_turnOf_42 ok_CM (by decide) L_CM_12 ((hF5.2 _ (SC_f (by omega))).trans e0) rfl ?_
          refine P_getfN (i := 2) d_CM_turnOf_45 ok_Plane (by decide) L_CM_163 ((hF5.2 _ (SC_f (by omega))).trans eb) rfl ?_
          refine P_iload_n d_CM_turnOf_48 rfl ?_
          refine P_aald (j := a1N) (q := b + 19 + 1 + a1N) d_CM_turnOf_49 (hI5.ps hb) rfl (ix_nI (by omega)) (by omega) (rows_at (by omega)) ?_
          refine P_aload_n d_CM_turnOf_50 rfl ?_
          refine P_getf (i := 0) d_CM_turnOf_51 ok_CM (by decide) L_CM_12 ((hF5.2 _ (SC_f (by omega))).trans e0) rfl ?_
          refine P_getfN (i := 2) d_CM_turnOf_54 ok_Plane (by decide) L_CM_163 ((hF5.2 _ (SC_f (by omega))).trans eb) rfl ?_
          refine P_iload_n d_CM_turnOf_57 rfl ?_
          refine P_aald (j := a2N) (q := b + 19 + 1 + a2N) d_CM_turnOf_58 (hI5.ps hb) rfl (ix_nI (by omega)) (by omega) (rows_at (by omega)) ?_
          refine P_aload_n d_CM_turnOf_59 rfl ?_
          refine P_getf (i := 0) d_CM_turnOf_60 ok_CM (by decide) L_CM_12 ((hF5.2 _ (SC_f (by omega))).trans e0) rfl ?_
          refine P_getfN (i := 2) d_CM_turnOf_63 ok_Plane (by decide) L_CM_163 ((hF5.2 _ (SC_f (by omega))).trans eb) rfl ?_
          refine P_iload_n d_CM_turnOf_66 rfl ?_
          refine P_aald (j := a3N) (q := b + 19 + 1 + a3N) d_CM_turnOf_67 (hI5.ps hb) rfl (ix_nI (by omega)) (by omega) (rows_at (by omega)) ?_
          obtain ⟨f9, f9e⟩ := hI5.row (r := b + 19 + 1 + a1N) (by omega) (Kc_p hb (by omega))
          obtain ⟨f10, f10e⟩ := hI5.row (r := b + 19 + 1 + a2N) (by omega) (Kc_p hb (by omega))
          obtain ⟨f11, f11e⟩ := hI5.row (r := b + 19 + 1 + a3N) (by omega) (Kc_p hb (by omega))
          refine P_callS (M := M_CM_turnOf) (pc := 68) (as := [.ref (b + 19 + 1 + a1N), .ref (b + 19 + 1 + a2N), .ref (b + 19 + 1 + a3N)]) d_CM_turnOf_68 co_Rows_determinant L_CM_401 sm_Rows_determinant (s_Rows_determinant f9e f10e f11e) rfl ⟨by decide, by decide⟩ ⟨by decide, by decide⟩ (by exact le_b rfl) ?_ _ rfl
          rintro _ u ⟨⟨v12, rfl⟩, eu⟩
          subst u
          show PW _ _ _ _ _ _ (71, [(0, .ref 0), (1, .int (nI a1N)), (2, .int (nI a2N)), (3, .int (nI a3N))], [.long v12], w5)
          refine P_callS (M := M_CM_turnOf) (pc := 71) (as := [.long v12]) d_CM_turnOf_71 co_Rows_sign L_CM_404 sm_Rows_sign (s_Rows_sign v12) rfl ⟨by decide, by decide⟩ ⟨by decide, by decide⟩ (by exact le_b rfl) ?_ _ rfl
          rintro _ u ⟨⟨v13, rfl⟩, eu⟩
          subst u
          show PW _ _ _ _ _ _ (74, [(0, .ref 0), (1, .int (nI a1N)), (2, .int (nI a2N)), (3, .int (nI a3N))], [.int v13], w5)
          exact P_iret d_CM_turnOf_74 rfl (le_b rfl) (le_b rfl) ⟨⟨_, rfl⟩, hI5, hF5⟩
        · refine P_bipush (v := (-3)) d_CM_turnOf_38 (by decide) ?_
          exact P_iret d_CM_turnOf_40 rfl (le_b rfl) (le_b rfl) ⟨⟨_, rfl⟩, hI5, hF5⟩
      · refine P_bipush (v := (-2)) d_CM_turnOf_24 (by decide) ?_
        exact P_iret d_CM_turnOf_26 rfl (le_b rfl) (le_b rfl) ⟨⟨_, rfl⟩, hI5, hF5⟩
theorem s_CM_gap {G : pG} {w : pW} (hG : GO G) (hI : I w) (a1 : Int32) (a2 : Int32) (a3 : Int32) : PM G M_CM_gap 3 0 0 [.ref 0, .int a1, .int a2, .int a3] w (fun r w' => (∃ v, r = some (.long v)) ∧ I w' ∧ Fr SC w w') := by
  refine PM_of pn_CM_gap (le_b rfl) ?_
  show PW _ _ _ _ _ _ (0, [(0, .ref 0), (1, .int a1), (2, .int a2), (3, .int a3)], [], w)
  obtain ⟨b, hb, e0⟩ := hI.cm
  obtain ⟨hb1, hb2⟩ := pl_rng hb
  obtain ⟨lc, qc, mc, pc, eb, hlc, hqc, hmc, hpc⟩ := hI.pl hb
  refine P_aload_n d_CM_gap_0 rfl ?_
  refine P_getf (i := 0) d_CM_gap_1 ok_CM (by decide) L_CM_12 e0 rfl ?_
  refine P_iload_n d_CM_gap_4 rfl ?_
  refine P_callV (M := M_CM_gap) (pc := 5) (as := [.int a1]) (b := b) d_CM_gap_5 co_Plane_hasPoint ok_Plane eb L_CM_160 im_Plane_hasPoint se_Plane_hasPoint (s_Plane_hasPoint eb hlc hqc hmc hpc a1) rfl ⟨by decide, by decide⟩ ⟨by decide, by decide⟩ (by exact le_b rfl) ?_ _ rfl
  rintro _ u ⟨rfl, eu⟩
  subst u
  show PW _ _ _ _ _ _ (8, [(0, .ref 0), (1, .int a1), (2, .int a2), (3, .int a3)], [.int (bi (inN pc a1))], w)
  refine P_if_eq 29 d_CM_gap_8 (by decide) (fun c2 => ?_) (fun c2 => ?_)
  · refine P_ldc2 (v := (-9223372036854775808)) d_CM_gap_29 L_CM_270 ?_
    exact P_lret d_CM_gap_32 rfl (le_b rfl) (le_b rfl) ⟨⟨_, rfl⟩, hI, Fr.rf⟩
  · obtain ⟨a1N, ha1N, rfl⟩ := inN_of (bi_1 c2) (by omega)
    refine P_aload_n d_CM_gap_11 rfl ?_
    refine P_getf (i := 0) d_CM_gap_12 ok_CM (by decide) L_CM_12 e0 rfl ?_
    refine P_iload_n d_CM_gap_15 rfl ?_
    refine P_callV (M := M_CM_gap) (pc := 16) (as := [.int a2]) (b := b) d_CM_gap_16 co_Plane_hasPoint ok_Plane eb L_CM_160 im_Plane_hasPoint se_Plane_hasPoint (s_Plane_hasPoint eb hlc hqc hmc hpc a2) rfl ⟨by decide, by decide⟩ ⟨by decide, by decide⟩ (by exact le_b rfl) ?_ _ rfl
    rintro _ u ⟨rfl, eu⟩
    subst u
    show PW _ _ _ _ _ _ (19, [(0, .ref 0), (1, .int (nI a1N)), (2, .int a2), (3, .int a3)], [.int (bi (inN pc a2))], w)
    refine P_if_eq 29 d_CM_gap_19 (by decide) (fun c4 => ?_) (fun c4 => ?_)
    · refine P_ldc2 (v := (-9223372036854775808)) d_CM_gap_29 L_CM_270 ?_
      exact P_lret d_CM_gap_32 rfl (le_b rfl) (le_b rfl) ⟨⟨_, rfl⟩, hI, Fr.rf⟩
    · obtain ⟨a2N, ha2N, rfl⟩ := inN_of (bi_1 c4) (by omega)
      refine P_iload_n d_CM_gap_22 rfl ?_
      refine P_callS (M := M_CM_gap) (pc := 23) (as := [.int a3]) d_CM_gap_23 co_CM_isPart L_CM_136 sm_CM_isPart (s_CM_isPart a3) rfl ⟨by decide, by decide⟩ ⟨by decide, by decide⟩ (by exact le_b rfl) ?_ _ rfl
      rintro _ u ⟨rfl, eu⟩
      subst u
      show PW _ _ _ _ _ _ (26, [(0, .ref 0), (1, .int (nI a1N)), (2, .int (nI a2N)), (3, .int a3)], [.int (bi (inN 2 a3))], w)
      refine P_if_ne 33 d_CM_gap_26 (by decide) (fun c6 => ?_) (fun c6 => ?_)
      · obtain ⟨a3N, ha3N, rfl⟩ := inN_of (bi_1 c6) (by omega)
        refine P_aload_n d_CM_gap_33 rfl ?_
        refine P_iload_n d_CM_gap_34 rfl ?_
        refine P_callV (M := M_CM_gap) (pc := 35) (as := [.int (nI a1N)]) (b := 0) d_CM_gap_35 co_CM_isFar ok_CM e0 L_CM_398 im_CM_isFar se_CM_isFar (s_CM_isFar hG hI (nI a1N)) rfl ⟨by decide, by decide⟩ ⟨by decide, by decide⟩ (by exact le_b rfl) ?_ _ rfl
        rintro _ w7 ⟨⟨v7, rfl⟩, hI7, hG7⟩
        have hF7 : Fr SC w w7 := Fr.tr Fr.rf hG7
        show PW _ _ _ _ _ _ (38, [(0, .ref 0), (1, .int (nI a1N)), (2, .int (nI a2N)), (3, .int (nI a3N))], [.int (bi v7)], w7)
        refine P_if_ne 49 d_CM_gap_38 (by decide) (fun c8 => ?_) (fun c8 => ?_)
        · refine P_ldc2 (v := (-2)) d_CM_gap_49 L_CM_408 ?_
          exact P_lret d_CM_gap_52 rfl (le_b rfl) (le_b rfl) ⟨⟨_, rfl⟩, hI7, hF7⟩
        · refine P_aload_n d_CM_gap_41 rfl ?_
          refine P_iload_n d_CM_gap_42 rfl ?_
          refine P_callV (M := M_CM_gap) (pc := 43) (as := [.int (nI a2N)]) (b := 0) d_CM_gap_43 co_CM_isFar ok_CM ((hF7.2 _ (SC_f (by omega))).trans e0) L_CM_398 im_CM_isFar se_CM_isFar (s_CM_isFar hG hI7 (nI a2N)) rfl ⟨by decide, by decide⟩ ⟨by decide, by decide⟩ (by exact le_b rfl) ?_ _ rfl
          rintro _ w9 ⟨⟨v9, rfl⟩, hI9, hG9⟩
          have hF9 : Fr SC w w9 := Fr.tr hF7 hG9
          show PW _ _ _ _ _ _ (46, [(0, .ref 0), (1, .int (nI a1N)), (2, .int (nI a2N)), (3, .int (nI a3N))], [.int (bi v9)], w9)
          refine P_if_eq 53 d_CM_gap_46 (by decide) (fun c10 => ?_) (fun c10 => ?_)
          · refine P_aload_n d_CM_gap_53 rfl ?_
            refine P_getf (i := 0) d_CM_gap_54 ok_CM (by decide) L_CM_12 ((hF9.2 _ (SC_f (by omega))).trans e0) rfl ?_
            refine P_getfN (i := 2) d_CM_gap_57 ok_Plane (by decide) L_CM_163 ((hF9.2 _ (SC_f (by omega))).trans eb) rfl ?_
            refine P_iload_n d_CM_gap_60 rfl ?_
            refine P_aald (j := a1N) (q := b + 19 + 1 + a1N) d_CM_gap_61 (hI9.ps hb) rfl (ix_nI (by omega)) (by omega) (rows_at (by omega)) ?_
            refine P_astore d_CM_gap_62 (by decide) rfl ?_
            refine P_aload_n d_CM_gap_64 rfl ?_
            refine P_getf (i := 0) d_CM_gap_65 ok_CM (by decide) L_CM_12 ((hF9.2 _ (SC_f (by omega))).trans e0) rfl ?_
            refine P_getfN (i := 2) d_CM_gap_68 ok_Plane (by decide) L_CM_163 ((hF9.2 _ (SC_f (by omega))).trans eb) rfl ?_
            refine P_iload_n d_CM_gap_71 rfl ?_
            refine P_aald (j := a2N) (q := b + 19 + 1 + a2N) d_CM_gap_72 (hI9.ps hb) rfl (ix_nI (by omega)) (by omega) (rows_at (by omega)) ?_
            refine P_astore d_CM_gap_73 (by decide) rfl ?_
            refine P_aload d_CM_gap_75 rfl ?_
            refine P_iconst (v := 0) d_CM_gap_77 (by decide) ?_
            obtain ⟨f11, f11e⟩ := hI9.row (r := b + 19 + 1 + a1N) (by omega) (Kc_p hb (by omega))
            refine P_lald (j := 0) d_CM_gap_78 f11e ⟨by decide, by decide⟩ (by decide) ?_
            refine P_aload d_CM_gap_79 rfl ?_
            refine P_iconst (v := 2) d_CM_gap_81 (by decide) ?_
            obtain ⟨f12, f12e⟩ := hI9.row (r := b + 19 + 1 + a2N) (by omega) (Kc_p hb (by omega))
            refine P_lald (j := 2) d_CM_gap_82 f12e ⟨by decide, by decide⟩ (by decide) ?_
            refine P_lmul d_CM_gap_83 ?_
            refine P_aload d_CM_gap_84 rfl ?_
            refine P_iconst (v := 0) d_CM_gap_86 (by decide) ?_
            refine P_lald (j := 0) d_CM_gap_87 f12e ⟨by decide, by decide⟩ (by decide) ?_
            refine P_aload d_CM_gap_88 rfl ?_
            refine P_iconst (v := 2) d_CM_gap_90 (by decide) ?_
            refine P_lald (j := 2) d_CM_gap_91 f11e ⟨by decide, by decide⟩ (by decide) ?_
            refine P_lmul d_CM_gap_92 ?_
            refine P_lsub d_CM_gap_93 ?_
            refine P_lstore d_CM_gap_94 (by decide) rfl ?_
            refine P_aload d_CM_gap_96 rfl ?_
            refine P_iconst (v := 1) d_CM_gap_98 (by decide) ?_
            refine P_lald (j := 1) d_CM_gap_99 f11e ⟨by decide, by decide⟩ (by decide) ?_
            refine P_aload d_CM_gap_100 rfl ?_
            refine P_iconst (v := 2) d_CM_gap_102 (by decide) ?_
            refine P_lald (j := 2) d_CM_gap_103 f12e ⟨by decide, by decide⟩ (by decide) ?_
            refine P_lmul d_CM_gap_104 ?_
            refine P_aload d_CM_gap_105 rfl ?_
            refine P_iconst (v := 1) d_CM_gap_107 (by decide) ?_
            refine P_lald (j := 1) d_CM_gap_108 f12e ⟨by decide, by decide⟩ (by decide) ?_
            refine P_aload d_CM_gap_109 rfl ?_
            refine P_iconst (v := 2) d_CM_gap_111 (by decide) ?_
            refine P_lald (j := 2) d_CM_gap_112 f11e ⟨by decide, by decide⟩ (by decide) ?_
            refine P_lmul d_CM_gap_113 ?_
            refine P_lsub d_CM_gap_114 ?_
            refine P_lstore d_CM_gap_115 (by decide) rfl ?_
            refine P_aload d_CM_gap_117 rfl ?_
            refine P_iconst (v := 2) d_CM_gap_119 (by decide) ?_
            refine P_lald (j := 2) d_CM_gap_120 f11e ⟨by decide, by decide⟩ (by decide) ?_
            refine P_aload d_CM_gap_121 rfl ?_
            refine P_iconst (v := 2) d_CM_gap_123 (by decide) ?_
            refine P_lald (j := 2) d_CM_gap_124 f12e ⟨by decide, by decide⟩ (by decide) ?_
            refine P_lmul d_CM_gap_125 ?_
            refine P_lstore d_CM_gap_126 (by decide) rfl ?_
            refine P_lload d_CM_gap_128 rfl ?_
            refine P_lload d_CM_gap_130 rfl ?_
            refine P_lmul d_CM_gap_132 ?_
            generalize (((f11 0) * (f12 2)) - ((f12 0) * (f11 2))) * (((f11 0) * (f12 2)) - ((f12 0) * (f11 2))) = zz13
            show PW _ _ _ _ _ _ (133, [(0, .ref 0), (1, .int (nI a1N)), (2, .int (nI a2N)), (3, .int (nI a3N)), (4, .ref (b + 19 + 1 + a1N)), (5, .ref (b + 19 + 1 + a2N)), (6, .long (((f11 0) * (f12 2)) - ((f12 0) * (f11 2)))), (8, .long (((f11 1) * (f12 2)) - ((f12 1) * (f11 2)))), (10, .long ((f11 2) * (f12 2)))], [.long zz13], w9)
            refine P_lload d_CM_gap_133 rfl ?_
            refine P_lload d_CM_gap_135 rfl ?_
            refine P_lmul d_CM_gap_137 ?_
            generalize (((f11 1) * (f12 2)) - ((f12 1) * (f11 2))) * (((f11 1) * (f12 2)) - ((f12 1) * (f11 2))) = zz14
            show PW _ _ _ _ _ _ (138, [(0, .ref 0), (1, .int (nI a1N)), (2, .int (nI a2N)), (3, .int (nI a3N)), (4, .ref (b + 19 + 1 + a1N)), (5, .ref (b + 19 + 1 + a2N)), (6, .long (((f11 0) * (f12 2)) - ((f12 0) * (f11 2)))), (8, .long (((f11 1) * (f12 2)) - ((f12 1) * (f11 2)))), (10, .long ((f11 2) * (f12 2)))], [.long zz14, .long zz13], w9)
            refine P_ladd d_CM_gap_138 ?_
            refine P_lload d_CM_gap_139 rfl ?_
            refine P_lload d_CM_gap_141 rfl ?_
            refine P_lmul d_CM_gap_143 ?_
            refine P_iload_n d_CM_gap_144 rfl ?_
            refine P_callS (M := M_CM_gap) (pc := 145) (as := [.long (zz13 + zz14), .long (((f11 2) * (f12 2)) * ((f11 2) * (f12 2))), .int (nI a3N)]) d_CM_gap_145 co_Rows_lowest L_CM_345 sm_Rows_lowest (s_Rows_lowest (zz13 + zz14) (((f11 2) * (f12 2)) * ((f11 2) * (f12 2))) (nI a3N)) rfl ⟨by decide, by decide⟩ ⟨by decide, by decide⟩ (by exact le_b rfl) ?_ _ rfl
            rintro _ u ⟨⟨v15, rfl⟩, eu⟩
            subst u
            show PW _ _ _ _ _ _ (148, [(0, .ref 0), (1, .int (nI a1N)), (2, .int (nI a2N)), (3, .int (nI a3N)), (4, .ref (b + 19 + 1 + a1N)), (5, .ref (b + 19 + 1 + a2N)), (6, .long (((f11 0) * (f12 2)) - ((f12 0) * (f11 2)))), (8, .long (((f11 1) * (f12 2)) - ((f12 1) * (f11 2)))), (10, .long ((f11 2) * (f12 2)))], [.long v15], w9)
            exact P_lret d_CM_gap_148 rfl (le_b rfl) (le_b rfl) ⟨⟨_, rfl⟩, hI9, hF9⟩
          · refine P_ldc2 (v := (-2)) d_CM_gap_49 L_CM_408 ?_
            exact P_lret d_CM_gap_52 rfl (le_b rfl) (le_b rfl) ⟨⟨_, rfl⟩, hI9, hF9⟩
      · refine P_ldc2 (v := (-9223372036854775808)) d_CM_gap_29 L_CM_270 ?_
        exact P_lret d_CM_gap_32 rfl (le_b rfl) (le_b rfl) ⟨⟨_, rfl⟩, hI, Fr.rf⟩
