/-! shapes: the class (by program) -/
theorem s_Plane_hasQuad {G : pG} {w : pW} {b x1 x2 x3 lc qc mc pc : Nat} (eb : w.2 b = .inr (1, [.ref x1, .ref x2, .ref x3, .int (nI lc), .int (nI qc), .int (nI mc), .int (nI pc)])) (hlc : lc ≤ 900) (hqc : qc ≤ 8) (hmc : mc ≤ 16) (hpc : pc ≤ 8) (a : Int32) : PM G M_Plane_hasQuad 0 0 0 [.ref b, .int a] w (fun r w' => r = some (.int (bi (inN qc a))) ∧ w' = w) := by
  refine PM_of pn_Plane_hasQuad (le_b rfl) ?_
  show PW _ _ _ _ _ _ (0, [(0, .ref b), (1, .int a)], [], w)
  refine P_iload_n d_Plane_hasQuad_0 rfl ?_
  refine P_if_lt 16 d_Plane_hasQuad_1 (by decide) (fun c1 => ?_) (fun c1 => ?_)
  · refine P_iconst (v := 0) d_Plane_hasQuad_16 (by decide) ?_
    exact P_zret d_Plane_hasQuad_17 rfl rfl (le_b rfl) (le_b rfl) ⟨by rw [inN_f1 c1]; rfl, rfl⟩
  · refine P_iload_n d_Plane_hasQuad_4 rfl ?_
    refine P_aload_n d_Plane_hasQuad_5 rfl ?_
    refine P_getf (i := 4) d_Plane_hasQuad_6 ok_Plane (by decide) L_Plane_30 eb rfl ?_
    refine P_icmp_ge 16 d_Plane_hasQuad_9 (by decide) (fun c2 => ?_) (fun c2 => ?_)
    · refine P_iconst (v := 0) d_Plane_hasQuad_16 (by decide) ?_
      exact P_zret d_Plane_hasQuad_17 rfl rfl (le_b rfl) (le_b rfl) ⟨by rw [inN_f2 c2]; rfl, rfl⟩
    · refine P_iconst (v := 1) d_Plane_hasQuad_12 (by decide) ?_
      refine P_goto 17 d_Plane_hasQuad_13 (by decide) ?_
      exact P_zret d_Plane_hasQuad_17 rfl rfl (le_b rfl) (le_b rfl) ⟨by rw [inN_t c1 c2]; rfl, rfl⟩
theorem s_Plane_hasMap {G : pG} {w : pW} {b x1 x2 x3 lc qc mc pc : Nat} (eb : w.2 b = .inr (1, [.ref x1, .ref x2, .ref x3, .int (nI lc), .int (nI qc), .int (nI mc), .int (nI pc)])) (hlc : lc ≤ 900) (hqc : qc ≤ 8) (hmc : mc ≤ 16) (hpc : pc ≤ 8) (a : Int32) : PM G M_Plane_hasMap 0 0 0 [.ref b, .int a] w (fun r w' => r = some (.int (bi (inN mc a))) ∧ w' = w) := by
  refine PM_of pn_Plane_hasMap (le_b rfl) ?_
  show PW _ _ _ _ _ _ (0, [(0, .ref b), (1, .int a)], [], w)
  refine P_iload_n d_Plane_hasMap_0 rfl ?_
  refine P_if_lt 16 d_Plane_hasMap_1 (by decide) (fun c1 => ?_) (fun c1 => ?_)
  · refine P_iconst (v := 0) d_Plane_hasMap_16 (by decide) ?_
    exact P_zret d_Plane_hasMap_17 rfl rfl (le_b rfl) (le_b rfl) ⟨by rw [inN_f1 c1]; rfl, rfl⟩
  · refine P_iload_n d_Plane_hasMap_4 rfl ?_
    refine P_aload_n d_Plane_hasMap_5 rfl ?_
    refine P_getf (i := 5) d_Plane_hasMap_6 ok_Plane (by decide) L_Plane_33 eb rfl ?_
    refine P_icmp_ge 16 d_Plane_hasMap_9 (by decide) (fun c2 => ?_) (fun c2 => ?_)
    · refine P_iconst (v := 0) d_Plane_hasMap_16 (by decide) ?_
      exact P_zret d_Plane_hasMap_17 rfl rfl (le_b rfl) (le_b rfl) ⟨by rw [inN_f2 c2]; rfl, rfl⟩
    · refine P_iconst (v := 1) d_Plane_hasMap_12 (by decide) ?_
      refine P_goto 17 d_Plane_hasMap_13 (by decide) ?_
      exact P_zret d_Plane_hasMap_17 rfl rfl (le_b rfl) (le_b rfl) ⟨by rw [inN_t c1 c2]; rfl, rfl⟩
theorem s_Plane_hasPoint {G : pG} {w : pW} {b x1 x2 x3 lc qc mc pc : Nat} (eb : w.2 b = .inr (1, [.ref x1, .ref x2, .ref x3, .int (nI lc), .int (nI qc), .int (nI mc), .int (nI pc)])) (hlc : lc ≤ 900) (hqc : qc ≤ 8) (hmc : mc ≤ 16) (hpc : pc ≤ 8) (a : Int32) : PM G M_Plane_hasPoint 0 0 0 [.ref b, .int a] w (fun r w' => r = some (.int (bi (inN pc a))) ∧ w' = w) := by
  refine PM_of pn_Plane_hasPoint (le_b rfl) ?_
  show PW _ _ _ _ _ _ (0, [(0, .ref b), (1, .int a)], [], w)
  refine P_iload_n d_Plane_hasPoint_0 rfl ?_
  refine P_if_lt 16 d_Plane_hasPoint_1 (by decide) (fun c1 => ?_) (fun c1 => ?_)
  · refine P_iconst (v := 0) d_Plane_hasPoint_16 (by decide) ?_
    exact P_zret d_Plane_hasPoint_17 rfl rfl (le_b rfl) (le_b rfl) ⟨by rw [inN_f1 c1]; rfl, rfl⟩
  · refine P_iload_n d_Plane_hasPoint_4 rfl ?_
    refine P_aload_n d_Plane_hasPoint_5 rfl ?_
    refine P_getf (i := 6) d_Plane_hasPoint_6 ok_Plane (by decide) L_Plane_36 eb rfl ?_
    refine P_icmp_ge 16 d_Plane_hasPoint_9 (by decide) (fun c2 => ?_) (fun c2 => ?_)
    · refine P_iconst (v := 0) d_Plane_hasPoint_16 (by decide) ?_
      exact P_zret d_Plane_hasPoint_17 rfl rfl (le_b rfl) (le_b rfl) ⟨by rw [inN_f2 c2]; rfl, rfl⟩
    · refine P_iconst (v := 1) d_Plane_hasPoint_12 (by decide) ?_
      refine P_goto 17 d_Plane_hasPoint_13 (by decide) ?_
      exact P_zret d_Plane_hasPoint_17 rfl rfl (le_b rfl) (le_b rfl) ⟨by rw [inN_t c1 c2]; rfl, rfl⟩
theorem s_CM_isThird {G : pG} {w : pW} (a : Int32) : PM G M_CM_isThird 0 0 0 [.int a] w (fun r w' => r = some (.int (bi (inN 3 a))) ∧ w' = w) := by
  refine PM_of pn_CM_isThird (le_b rfl) ?_
  show PW _ _ _ _ _ _ (0, [(0, .int a)], [], w)
  refine P_iload_n d_CM_isThird_0 rfl ?_
  refine P_if_lt 13 d_CM_isThird_1 (by decide) (fun c1 => ?_) (fun c1 => ?_)
  · refine P_iconst (v := 0) d_CM_isThird_13 (by decide) ?_
    exact P_zret d_CM_isThird_14 rfl rfl (le_b rfl) (le_b rfl) ⟨by rw [inN_f1 c1]; rfl, rfl⟩
  · refine P_iload_n d_CM_isThird_4 rfl ?_
    refine P_iconst (v := 3) d_CM_isThird_5 (by decide) ?_
    refine P_icmp_ge 13 d_CM_isThird_6 (by decide) (fun c2 => ?_) (fun c2 => ?_)
    · refine P_iconst (v := 0) d_CM_isThird_13 (by decide) ?_
      exact P_zret d_CM_isThird_14 rfl rfl (le_b rfl) (le_b rfl) ⟨by rw [inN_f2 c2]; rfl, rfl⟩
    · obtain ⟨aN, haN, rfl⟩ := nI_of_ge (n := 3) c1 c2 rfl
      refine P_iconst (v := 1) d_CM_isThird_9 (by decide) ?_
      refine P_goto 14 d_CM_isThird_10 (by decide) ?_
      exact P_zret d_CM_isThird_14 rfl rfl (le_b rfl) (le_b rfl) ⟨by rw [inN_t c1 c2]; rfl, rfl⟩
theorem s_CM_isCorner {G : pG} {w : pW} (a : Int32) : PM G M_CM_isCorner 0 0 0 [.int a] w (fun r w' => r = some (.int (bi (inN 4 a))) ∧ w' = w) := by
  refine PM_of pn_CM_isCorner (le_b rfl) ?_
  show PW _ _ _ _ _ _ (0, [(0, .int a)], [], w)
  refine P_iload_n d_CM_isCorner_0 rfl ?_
  refine P_if_lt 13 d_CM_isCorner_1 (by decide) (fun c1 => ?_) (fun c1 => ?_)
  · refine P_iconst (v := 0) d_CM_isCorner_13 (by decide) ?_
    exact P_zret d_CM_isCorner_14 rfl rfl (le_b rfl) (le_b rfl) ⟨by rw [inN_f1 c1]; rfl, rfl⟩
  · refine P_iload_n d_CM_isCorner_4 rfl ?_
    refine P_iconst (v := 4) d_CM_isCorner_5 (by decide) ?_
    refine P_icmp_ge 13 d_CM_isCorner_6 (by decide) (fun c2 => ?_) (fun c2 => ?_)
    · refine P_iconst (v := 0) d_CM_isCorner_13 (by decide) ?_
      exact P_zret d_CM_isCorner_14 rfl rfl (le_b rfl) (le_b rfl) ⟨by rw [inN_f2 c2]; rfl, rfl⟩
    · obtain ⟨aN, haN, rfl⟩ := nI_of_ge (n := 4) c1 c2 rfl
      refine P_iconst (v := 1) d_CM_isCorner_9 (by decide) ?_
      refine P_goto 14 d_CM_isCorner_10 (by decide) ?_
      exact P_zret d_CM_isCorner_14 rfl rfl (le_b rfl) (le_b rfl) ⟨by rw [inN_t c1 c2]; rfl, rfl⟩
theorem s_CM_isKind {G : pG} {w : pW} (a : Int32) : PM G M_CM_isKind 0 0 0 [.int a] w (fun r w' => r = some (.int (bi (inN 6 a))) ∧ w' = w) := by
  refine PM_of pn_CM_isKind (le_b rfl) ?_
  show PW _ _ _ _ _ _ (0, [(0, .int a)], [], w)
  refine P_iload_n d_CM_isKind_0 rfl ?_
  refine P_if_lt 13 d_CM_isKind_1 (by decide) (fun c1 => ?_) (fun c1 => ?_)
  · refine P_iconst (v := 0) d_CM_isKind_13 (by decide) ?_
    exact P_zret d_CM_isKind_14 rfl rfl (le_b rfl) (le_b rfl) ⟨by rw [inN_f1 c1]; rfl, rfl⟩
  · refine P_iload_n d_CM_isKind_4 rfl ?_
    refine P_iconst (v := 5) d_CM_isKind_5 (by decide) ?_
    refine P_icmp_gt 13 d_CM_isKind_6 (by decide) (fun c2 => ?_) (fun c2 => ?_)
    · refine P_iconst (v := 0) d_CM_isKind_13 (by decide) ?_
      exact P_zret d_CM_isKind_14 rfl rfl (le_b rfl) (le_b rfl) ⟨by rw [inN_f2 (kind_6 c2)]; rfl, rfl⟩
    · obtain ⟨aN, haN, rfl⟩ := nI_of_gt (n := 5) c1 c2 rfl
      refine P_iconst (v := 1) d_CM_isKind_9 (by decide) ?_
      refine P_goto 14 d_CM_isKind_10 (by decide) ?_
      exact P_zret d_CM_isKind_14 rfl rfl (le_b rfl) (le_b rfl) ⟨by rw [inN_t c1 (fun h => c2 (Int32.lt_of_lt_of_le (by decide) h))]; rfl, rfl⟩
theorem s_CM_isPart {G : pG} {w : pW} (a : Int32) : PM G M_CM_isPart 0 0 0 [.int a] w (fun r w' => r = some (.int (bi (inN 2 a))) ∧ w' = w) := by
  refine PM_of pn_CM_isPart (le_b rfl) ?_
  show PW _ _ _ _ _ _ (0, [(0, .int a)], [], w)
  refine P_iload_n d_CM_isPart_0 rfl ?_
  refine P_if_eq 9 d_CM_isPart_1 (by decide) (fun c1 => ?_) (fun c1 => ?_)
  · refine P_iconst (v := 1) d_CM_isPart_9 (by decide) ?_
    refine P_goto 14 d_CM_isPart_10 (by decide) ?_
    exact P_zret d_CM_isPart_14 rfl rfl (le_b rfl) (le_b rfl) ⟨by rw [c1, part_0]; rfl, rfl⟩
  · refine P_iload_n d_CM_isPart_4 rfl ?_
    refine P_iconst (v := 1) d_CM_isPart_5 (by decide) ?_
    refine P_icmp_ne 13 d_CM_isPart_6 (by decide) (fun c2 => ?_) (fun c2 => ?_)
    · refine P_iconst (v := 0) d_CM_isPart_13 (by decide) ?_
      exact P_zret d_CM_isPart_14 rfl rfl (le_b rfl) (le_b rfl) ⟨by rw [part_n c1 c2]; rfl, rfl⟩
    · refine P_iconst (v := 1) d_CM_isPart_9 (by decide) ?_
      refine P_goto 14 d_CM_isPart_10 (by decide) ?_
      exact P_zret d_CM_isPart_14 rfl rfl (le_b rfl) (le_b rfl) ⟨by rw [c2, part_1]; rfl, rfl⟩
theorem s_Rows_sign {G : pG} {w : pW} (x : Int64) : PM G M_Rows_sign 0 0 0 [.long x] w (fun r w' => (∃ v, r = some (.int v)) ∧ w' = w) := by
  refine PM_of pn_Rows_sign (le_b rfl) ?_
  show PW _ _ _ _ _ _ (0, [(0, .long x)], [], w)
  refine P_lload_n d_Rows_sign_0 rfl ?_
  refine P_lconst (v := 0) d_Rows_sign_1 (by decide) ?_
  refine P_lcmp d_Rows_sign_2 ?_
  refine P_if_le 10 d_Rows_sign_3 (by decide) (fun c1 => ?_) (fun c1 => ?_)
  · refine P_lload_n d_Rows_sign_10 rfl ?_
    refine P_lconst (v := 0) d_Rows_sign_11 (by decide) ?_
    refine P_lcmp d_Rows_sign_12 ?_
    refine P_if_ge 20 d_Rows_sign_13 (by decide) (fun c2 => ?_) (fun c2 => ?_)
    · refine P_iconst (v := 0) d_Rows_sign_20 (by decide) ?_
      exact P_iret d_Rows_sign_21 rfl (le_b rfl) (le_b rfl) ⟨⟨_, rfl⟩, rfl⟩
    · refine P_iconst (v := (-1)) d_Rows_sign_16 (by decide) ?_
      refine P_goto 21 d_Rows_sign_17 (by decide) ?_
      exact P_iret d_Rows_sign_21 rfl (le_b rfl) (le_b rfl) ⟨⟨_, rfl⟩, rfl⟩
  · refine P_iconst (v := 1) d_Rows_sign_6 (by decide) ?_
    refine P_goto 21 d_Rows_sign_7 (by decide) ?_
    exact P_iret d_Rows_sign_21 rfl (le_b rfl) (le_b rfl) ⟨⟨_, rfl⟩, rfl⟩
theorem s_Rows_lowest {G : pG} {w : pW} (x : Int64) (y : Int64) (a : Int32) : PM G M_Rows_lowest 2 0 0 [.long x, .long y, .int a] w (fun r w' => (∃ v, r = some (.long v)) ∧ w' = w) := by
  refine PM_of pn_Rows_lowest (le_b rfl) ?_
  show PW _ _ _ _ _ _ (0, [(0, .long x), (2, .long y), (4, .int a)], [], w)
  refine P_lload_n d_Rows_lowest_0 rfl ?_
  refine P_lload_n d_Rows_lowest_1 rfl ?_
  refine P_callS (M := M_Rows_lowest) (pc := 2) (as := [.long x, .long y]) d_Rows_lowest_2 co_Rows_divisor L_Rows_17 sm_Rows_divisor (v_Rows_divisor x y) rfl ⟨by decide, by decide⟩ ⟨by decide, by decide⟩ (by exact le_b rfl) ?_ _ rfl
  rintro _ u ⟨rfl, eu⟩
  subst u
  generalize euS 1000 (absL x) (absL y) = x1
  show PW _ _ _ _ _ _ (5, [(0, .long x), (2, .long y), (4, .int a)], [.long x1], w)
  refine P_lstore d_Rows_lowest_5 (by decide) rfl ?_
  refine P_lload d_Rows_lowest_7 rfl ?_
  refine P_lconst (v := 0) d_Rows_lowest_9 (by decide) ?_
  refine P_lcmp d_Rows_lowest_10 ?_
  refine P_if_ne 16 d_Rows_lowest_11 (by decide) (fun c2 => ?_) (fun c2 => ?_)
  · refine P_iload d_Rows_lowest_16 rfl ?_
    refine P_if_ne 25 d_Rows_lowest_18 (by decide) (fun c3 => ?_) (fun c3 => ?_)
    · refine P_lload_n d_Rows_lowest_25 rfl ?_
      refine P_lload_n d_Rows_lowest_26 rfl ?_
      refine P_lconst (v := 0) d_Rows_lowest_27 (by decide) ?_
      refine P_lcmp d_Rows_lowest_28 ?_
      refine P_if_ge 38 d_Rows_lowest_29 (by decide) (fun c4 => ?_) (fun c4 => ?_)
      · refine P_lload d_Rows_lowest_38 rfl ?_
        refine P_ldiv d_Rows_lowest_40 (cmp_ne c2) ?_
        exact P_lret d_Rows_lowest_41 rfl (le_b rfl) (le_b rfl) ⟨⟨_, rfl⟩, rfl⟩
      · refine P_lload d_Rows_lowest_32 rfl ?_
        refine P_lneg d_Rows_lowest_34 ?_
        refine P_goto 40 d_Rows_lowest_35 (by decide) ?_
        refine P_ldiv d_Rows_lowest_40 (neg_ne (cmp_ne c2)) ?_
        exact P_lret d_Rows_lowest_41 rfl (le_b rfl) (le_b rfl) ⟨⟨_, rfl⟩, rfl⟩
    · refine P_lload_n d_Rows_lowest_21 rfl ?_
      refine P_goto 26 d_Rows_lowest_22 (by decide) ?_
      refine P_lload_n d_Rows_lowest_26 rfl ?_
      refine P_lconst (v := 0) d_Rows_lowest_27 (by decide) ?_
      refine P_lcmp d_Rows_lowest_28 ?_
      refine P_if_ge 38 d_Rows_lowest_29 (by decide) (fun c5 => ?_) (fun c5 => ?_)
      · refine P_lload d_Rows_lowest_38 rfl ?_
        refine P_ldiv d_Rows_lowest_40 (cmp_ne c2) ?_
        exact P_lret d_Rows_lowest_41 rfl (le_b rfl) (le_b rfl) ⟨⟨_, rfl⟩, rfl⟩
      · refine P_lload d_Rows_lowest_32 rfl ?_
        refine P_lneg d_Rows_lowest_34 ?_
        refine P_goto 40 d_Rows_lowest_35 (by decide) ?_
        refine P_ldiv d_Rows_lowest_40 (neg_ne (cmp_ne c2)) ?_
        exact P_lret d_Rows_lowest_41 rfl (le_b rfl) (le_b rfl) ⟨⟨_, rfl⟩, rfl⟩
  · refine P_lconst (v := 0) d_Rows_lowest_14 (by decide) ?_
    exact P_lret d_Rows_lowest_15 rfl (le_b rfl) (le_b rfl) ⟨⟨_, rfl⟩, rfl⟩
theorem s_Rows_alike {G : pG} {w : pW} {N : Nat} (h0 : 0 < N) (hN : N < 1000000) {p : Nat} {fp : Nat → Int64} (hp : w.2 p = .inl (1, N, .inr (.inl fp))) {q : Nat} {fq : Nat → Int64} (hq : w.2 q = .inl (1, N, .inr (.inl fq))) : PM G M_Rows_alike 0 0 0 [.ref p, .ref q] w (fun r w' => (∃ v, r = some (.int (bi v))) ∧ w' = w) := by
  refine PM_of pn_Rows_alike (le_b rfl) ?_
  show PW _ _ _ _ _ _ (0, [(0, .ref p), (1, .ref q)], [], w)
  refine P_iconst (v := 0) d_Rows_alike_0 (by decide) ?_
  refine P_istore_n d_Rows_alike_1 (by decide) rfl ?_
  refine PW_ind (σ := Unit) (N) (fun jj ss => True) (fun jj ss => (2, [(0, .ref p), (1, .ref q), (2, .int (nI jj))], [], w)) ?_ ?_ 0 () (by omega) trivial
  · rintro _ _
    show PW _ _ _ _ _ _ (2, [(0, .ref p), (1, .ref q), (2, .int (nI N))], [], w)
    refine P_iload_n d_Rows_alike_2 rfl ?_
    refine P_aload_n d_Rows_alike_3 rfl ?_
    refine P_alen (v := nI N) d_Rows_alike_4 hp rfl ?_
    refine P_icmp_ge 32 d_Rows_alike_5 (by decide) (fun _ => ?_) (fun h => absurd (Int32.le_refl _) h)
    refine P_iconst (v := 1) d_Rows_alike_32 (by decide) ?_
    exact P_zret d_Rows_alike_33 rfl rfl (le_b rfl) (le_b rfl) ⟨⟨true, rfl⟩, rfl⟩
  · rintro j1 _ hj1 _ kkj1
    show PW _ _ _ _ _ _ (2, [(0, .ref p), (1, .ref q), (2, .int (nI j1))], [], w)
    refine P_iload_n d_Rows_alike_2 rfl ?_
    refine P_aload_n d_Rows_alike_3 rfl ?_
    refine P_alen (v := nI N) d_Rows_alike_4 hp rfl ?_
    refine P_icmp_ge 32 d_Rows_alike_5 (by decide) (fun h => absurd h (nI_geF (a := j1) (b := N) (by omega) (by omega))) (fun _ => ?_)
    refine P_iload_n d_Rows_alike_8 rfl ?_
    refine P_aload_n d_Rows_alike_9 rfl ?_
    refine P_alen (v := nI N) d_Rows_alike_10 hq rfl ?_
    refine P_icmp_ge 32 d_Rows_alike_11 (by decide) (fun h => absurd h (nI_geF (a := j1) (b := N) (by omega) (by omega))) (fun _ => ?_)
    refine P_aload_n d_Rows_alike_14 rfl ?_
    refine P_iload_n d_Rows_alike_15 rfl ?_
    refine P_lald (j := j1) d_Rows_alike_16 hp (ix_nI (by omega)) (by omega) ?_
    refine P_aload_n d_Rows_alike_17 rfl ?_
    refine P_iload_n d_Rows_alike_18 rfl ?_
    refine P_lald (j := j1) d_Rows_alike_19 hq (ix_nI (by omega)) (by omega) ?_
    refine P_lcmp d_Rows_alike_20 ?_
    refine P_if_eq 26 d_Rows_alike_21 (by decide) (fun c2 => ?_) (fun c2 => ?_)
    · refine P_iinc (v := nI (j1 + 1)) d_Rows_alike_26 (by decide) rfl (nI_add j1 1) rfl ?_
      refine P_goto 2 d_Rows_alike_29 (by decide) ?_
      exact kkj1 () trivial
    · refine P_iconst (v := 0) d_Rows_alike_24 (by decide) ?_
      exact P_zret d_Rows_alike_25 rfl rfl (le_b rfl) (le_b rfl) ⟨⟨false, rfl⟩, rfl⟩
theorem s_Rows_isMultiple {G : pG} {w : pW} {N : Nat} (h0 : 0 < N) (hN : N < 1000000) {p : Nat} {fp : Nat → Int64} (hp : w.2 p = .inl (1, N, .inr (.inl fp))) {q : Nat} {fq : Nat → Int64} (hq : w.2 q = .inl (1, N, .inr (.inl fq))) : PM G M_Rows_isMultiple 1 0 0 [.ref p, .ref q] w (fun r w' => (∃ v, r = some (.int (bi v))) ∧ w' = w) := by
  refine PM_of pn_Rows_isMultiple (le_b rfl) ?_
  show PW _ _ _ _ _ _ (0, [(0, .ref p), (1, .ref q)], [], w)
  refine P_aload_n d_Rows_isMultiple_0 rfl ?_
  refine P_callS (M := M_Rows_isMultiple) (pc := 1) (as := [.ref q]) d_Rows_isMultiple_1 co_Rows_lastPlace L_Rows_21 sm_Rows_lastPlace (v_Rows_lastPlace hq h0 hN) rfl ⟨by decide, by decide⟩ ⟨by decide, by decide⟩ (by exact le_b rfl) ?_ _ rfl
  rintro _ u ⟨rfl, eu⟩
  subst u
  obtain ⟨j1, j1l, j1e⟩ : ∃ j, j < N ∧ lpF fq (N - 1) = j := ⟨_, lpF_lt h0, rfl⟩
  rw [j1e]
  show PW _ _ _ _ _ _ (4, [(0, .ref p), (1, .ref q)], [.int (nI j1)], w)
  refine P_istore_n d_Rows_isMultiple_4 (by decide) rfl ?_
  refine P_aload_n d_Rows_isMultiple_5 rfl ?_
  refine P_iload_n d_Rows_isMultiple_6 rfl ?_
  refine P_lald (j := j1) d_Rows_isMultiple_7 hq (ix_nI (by omega)) (by omega) ?_
  refine P_lconst (v := 0) d_Rows_isMultiple_8 (by decide) ?_
  refine P_lcmp d_Rows_isMultiple_9 ?_
  refine P_if_ne 15 d_Rows_isMultiple_10 (by decide) (fun c2 => ?_) (fun c2 => ?_)
  · refine P_aload_n d_Rows_isMultiple_15 rfl ?_
    refine P_iload_n d_Rows_isMultiple_16 rfl ?_
    refine P_lald (j := j1) d_Rows_isMultiple_17 hp (ix_nI (by omega)) (by omega) ?_
    refine P_aload_n d_Rows_isMultiple_18 rfl ?_
    refine P_iload_n d_Rows_isMultiple_19 rfl ?_
    refine P_lald (j := j1) d_Rows_isMultiple_20 hq (ix_nI (by omega)) (by omega) ?_
    refine P_ldiv d_Rows_isMultiple_21 (cmp_ne c2) ?_
    refine P_lstore_n d_Rows_isMultiple_22 (by decide) rfl ?_
    refine P_lload_n d_Rows_isMultiple_23 rfl ?_
    refine P_lconst (v := 0) d_Rows_isMultiple_24 (by decide) ?_
    refine P_lcmp d_Rows_isMultiple_25 ?_
    refine P_if_ne 31 d_Rows_isMultiple_26 (by decide) (fun c3 => ?_) (fun c3 => ?_)
    · refine P_iconst (v := 0) d_Rows_isMultiple_31 (by decide) ?_
      refine P_istore d_Rows_isMultiple_32 (by decide) rfl ?_
      refine PW_ind (σ := Unit) (N) (fun jj ss => True) (fun jj ss => (34, [(0, .ref p), (1, .ref q), (2, .int (nI j1)), (3, .long ((fp j1) / (fq j1))), (5, .int (nI jj))], [], w)) ?_ ?_ 0 () (by omega) trivial
      · rintro _ _
        show PW _ _ _ _ _ _ (34, [(0, .ref p), (1, .ref q), (2, .int (nI j1)), (3, .long ((fp j1) / (fq j1))), (5, .int (nI N))], [], w)
        refine P_iload d_Rows_isMultiple_34 rfl ?_
        refine P_aload_n d_Rows_isMultiple_36 rfl ?_
        refine P_alen (v := nI N) d_Rows_isMultiple_37 hp rfl ?_
        refine P_icmp_ge 81 d_Rows_isMultiple_38 (by decide) (fun _ => ?_) (fun h => absurd (Int32.le_refl _) h)
        refine P_iconst (v := 1) d_Rows_isMultiple_81 (by decide) ?_
        exact P_zret d_Rows_isMultiple_82 rfl rfl (le_b rfl) (le_b rfl) ⟨⟨true, rfl⟩, rfl⟩
      · rintro j4 _ hj4 _ kkj4
        show PW _ _ _ _ _ _ (34, [(0, .ref p), (1, .ref q), (2, .int (nI j1)), (3, .long ((fp j1) / (fq j1))), (5, .int (nI j4))], [], w)
        refine P_iload d_Rows_isMultiple_34 rfl ?_
        refine P_aload_n d_Rows_isMultiple_36 rfl ?_
        refine P_alen (v := nI N) d_Rows_isMultiple_37 hp rfl ?_
        refine P_icmp_ge 81 d_Rows_isMultiple_38 (by decide) (fun h => absurd h (nI_geF (a := j4) (b := N) (by omega) (by omega))) (fun _ => ?_)
        refine P_iload d_Rows_isMultiple_41 rfl ?_
        refine P_aload_n d_Rows_isMultiple_43 rfl ?_
        refine P_alen (v := nI N) d_Rows_isMultiple_44 hq rfl ?_
        refine P_icmp_ge 81 d_Rows_isMultiple_45 (by decide) (fun h => absurd h (nI_geF (a := j4) (b := N) (by omega) (by omega))) (fun _ => ?_)
        refine P_aload_n d_Rows_isMultiple_48 rfl ?_
        refine P_iload d_Rows_isMultiple_49 rfl ?_
        refine P_lald (j := j4) d_Rows_isMultiple_51 hp (ix_nI (by omega)) (by omega) ?_
        refine P_lload_n d_Rows_isMultiple_52 rfl ?_
        refine P_lrem d_Rows_isMultiple_53 (cmp_ne c3) ?_
        generalize (fp j4) - (fp j4) / ((fp j1) / (fq j1)) * ((fp j1) / (fq j1)) = zz5
        show PW _ _ _ _ _ _ (54, [(0, .ref p), (1, .ref q), (2, .int (nI j1)), (3, .long ((fp j1) / (fq j1))), (5, .int (nI j4))], [.long zz5], w)
        refine P_lconst (v := 0) d_Rows_isMultiple_54 (by decide) ?_
        refine P_lcmp d_Rows_isMultiple_55 ?_
        refine P_if_ne 73 d_Rows_isMultiple_56 (by decide) (fun c6 => ?_) (fun c6 => ?_)
        · refine P_iconst (v := 0) d_Rows_isMultiple_73 (by decide) ?_
          exact P_zret d_Rows_isMultiple_74 rfl rfl (le_b rfl) (le_b rfl) ⟨⟨false, rfl⟩, rfl⟩
        · refine P_aload_n d_Rows_isMultiple_59 rfl ?_
          refine P_iload d_Rows_isMultiple_60 rfl ?_
          refine P_lald (j := j4) d_Rows_isMultiple_62 hp (ix_nI (by omega)) (by omega) ?_
          refine P_lload_n d_Rows_isMultiple_63 rfl ?_
          refine P_ldiv d_Rows_isMultiple_64 (cmp_ne c3) ?_
          refine P_aload_n d_Rows_isMultiple_65 rfl ?_
          refine P_iload d_Rows_isMultiple_66 rfl ?_
          refine P_lald (j := j4) d_Rows_isMultiple_68 hq (ix_nI (by omega)) (by omega) ?_
          refine P_lcmp d_Rows_isMultiple_69 ?_
          refine P_if_eq 75 d_Rows_isMultiple_70 (by decide) (fun c7 => ?_) (fun c7 => ?_)
          · refine P_iinc (v := nI (j4 + 1)) d_Rows_isMultiple_75 (by decide) rfl (nI_add j4 1) rfl ?_
            refine P_goto 34 d_Rows_isMultiple_78 (by decide) ?_
            exact kkj4 () trivial
          · refine P_iconst (v := 0) d_Rows_isMultiple_73 (by decide) ?_
            exact P_zret d_Rows_isMultiple_74 rfl rfl (le_b rfl) (le_b rfl) ⟨⟨false, rfl⟩, rfl⟩
    · refine P_iconst (v := 0) d_Rows_isMultiple_29 (by decide) ?_
      exact P_zret d_Rows_isMultiple_30 rfl rfl (le_b rfl) (le_b rfl) ⟨⟨false, rfl⟩, rfl⟩
  · refine P_iconst (v := 0) d_Rows_isMultiple_13 (by decide) ?_
    exact P_zret d_Rows_isMultiple_14 rfl rfl (le_b rfl) (le_b rfl) ⟨⟨false, rfl⟩, rfl⟩
theorem s_Rows_greatest {G : pG} {w : pW} {N : Nat} (h0 : 0 < N) (hN : N < 1000000) {p : Nat} {fp : Nat → Int64} (hp : w.2 p = .inl (1, N, .inr (.inl fp))) : PM G M_Rows_greatest 1 0 0 [.ref p] w (fun r w' => (∃ v, r = some (.long v)) ∧ w' = w) := by
  refine PM_of pn_Rows_greatest (le_b rfl) ?_
  show PW _ _ _ _ _ _ (0, [(0, .ref p)], [], w)
  refine P_lconst (v := 0) d_Rows_greatest_0 (by decide) ?_
  refine P_lstore_n d_Rows_greatest_1 (by decide) rfl ?_
  refine P_iconst (v := 0) d_Rows_greatest_2 (by decide) ?_
  refine P_istore_n d_Rows_greatest_3 (by decide) rfl ?_
  refine PW_ind (σ := Int64) (N) (fun jj ss => True) (fun jj ss => (4, [(0, .ref p), (1, .long ss), (3, .int (nI jj))], [], w)) ?_ ?_ 0 (0) (by omega) trivial
  · rintro j1_1 _
    show PW _ _ _ _ _ _ (4, [(0, .ref p), (1, .long j1_1), (3, .int (nI N))], [], w)
    refine P_iload_n d_Rows_greatest_4 rfl ?_
    refine P_aload_n d_Rows_greatest_5 rfl ?_
    refine P_alen (v := nI N) d_Rows_greatest_6 hp rfl ?_
    refine P_icmp_ge 27 d_Rows_greatest_7 (by decide) (fun _ => ?_) (fun h => absurd (Int32.le_refl _) h)
    refine P_lload_n d_Rows_greatest_27 rfl ?_
    exact P_lret d_Rows_greatest_28 rfl (le_b rfl) (le_b rfl) ⟨⟨_, rfl⟩, rfl⟩
  · rintro j1 j1_1 hj1 _ kkj1
    show PW _ _ _ _ _ _ (4, [(0, .ref p), (1, .long j1_1), (3, .int (nI j1))], [], w)
    refine P_iload_n d_Rows_greatest_4 rfl ?_
    refine P_aload_n d_Rows_greatest_5 rfl ?_
    refine P_alen (v := nI N) d_Rows_greatest_6 hp rfl ?_
    refine P_icmp_ge 27 d_Rows_greatest_7 (by decide) (fun h => absurd h (nI_geF (a := j1) (b := N) (by omega) (by omega))) (fun _ => ?_)
    refine P_lload_n d_Rows_greatest_10 rfl ?_
    refine P_aload_n d_Rows_greatest_11 rfl ?_
    refine P_iload_n d_Rows_greatest_12 rfl ?_
    refine P_lald (j := j1) d_Rows_greatest_13 hp (ix_nI (by omega)) (by omega) ?_
    refine P_mabslZ d_Rows_greatest_14 L_Rows_9 st_abs in_Math cd_abs ⟨by decide, by decide, by decide, by decide⟩ (by exact le_b rfl) (fun zz2 => ?_)
    show PW _ _ _ _ _ _ (17, [(0, .ref p), (1, .long j1_1), (3, .int (nI j1))], [.long zz2, .long j1_1], w)
    refine P_mmaxlZ d_Rows_greatest_17 L_Rows_35 st_max in_Math cd_max ⟨by decide, by decide, by decide, by decide⟩ (by exact le_b rfl) (fun zz3 => ?_)
    show PW _ _ _ _ _ _ (20, [(0, .ref p), (1, .long j1_1), (3, .int (nI j1))], [.long zz3], w)
    refine P_lstore_n d_Rows_greatest_20 (by decide) rfl ?_
    refine P_iinc (v := nI (j1 + 1)) d_Rows_greatest_21 (by decide) rfl (nI_add j1 1) rfl ?_
    refine P_goto 4 d_Rows_greatest_24 (by decide) ?_
    exact kkj1 (zz3) trivial
theorem s_Rows_isNear {G : pG} {w : pW} {p : Nat} {fp : Nat → Int64} (hp : w.2 p = .inl (1, 3, .inr (.inl fp))) : PM G M_Rows_isNear 2 0 0 [.ref p] w (fun r w' => (∃ v, r = some (.int (bi v))) ∧ w' = w) := by
  refine PM_of pn_Rows_isNear (le_b rfl) ?_
  show PW _ _ _ _ _ _ (0, [(0, .ref p)], [], w)
  refine P_aload_n d_Rows_isNear_0 rfl ?_
  refine P_callS (M := M_Rows_isNear) (pc := 1) (as := [.ref p]) d_Rows_isNear_1 co_Rows_greatest L_Rows_38 sm_Rows_greatest (s_Rows_greatest (by decide) (by decide) hp) rfl ⟨by decide, by decide⟩ ⟨by decide, by decide⟩ (by exact le_b rfl) ?_ _ rfl
  rintro _ u ⟨⟨v1, rfl⟩, eu⟩
  subst u
  show PW _ _ _ _ _ _ (4, [(0, .ref p)], [.long v1], w)
  refine P_ldc2 (v := 9999) d_Rows_isNear_4 L_Rows_42 ?_
  refine P_lcmp d_Rows_isNear_7 ?_
  refine P_if_gt 15 d_Rows_isNear_8 (by decide) (fun c2 => ?_) (fun c2 => ?_)
  · refine P_iconst (v := 0) d_Rows_isNear_15 (by decide) ?_
    exact P_zret d_Rows_isNear_16 rfl rfl (le_b rfl) (le_b rfl) ⟨⟨false, rfl⟩, rfl⟩
  · refine P_iconst (v := 1) d_Rows_isNear_11 (by decide) ?_
    refine P_goto 16 d_Rows_isNear_12 (by decide) ?_
    exact P_zret d_Rows_isNear_16 rfl rfl (le_b rfl) (le_b rfl) ⟨⟨true, rfl⟩, rfl⟩
theorem s_Rows_isFinite {G : pG} {w : pW} {p : Nat} {fp : Nat → Int64} (hp : w.2 p = .inl (1, 3, .inr (.inl fp))) : PM G M_Rows_isFinite 0 0 0 [.ref p] w (fun r w' => (∃ v, r = some (.int (bi v))) ∧ w' = w) := by
  refine PM_of pn_Rows_isFinite (le_b rfl) ?_
  show PW _ _ _ _ _ _ (0, [(0, .ref p)], [], w)
  refine P_aload_n d_Rows_isFinite_0 rfl ?_
  refine P_iconst (v := 2) d_Rows_isFinite_1 (by decide) ?_
  refine P_lald (j := 2) d_Rows_isFinite_2 hp ⟨by decide, by decide⟩ (by decide) ?_
  refine P_lconst (v := 0) d_Rows_isFinite_3 (by decide) ?_
  refine P_lcmp d_Rows_isFinite_4 ?_
  refine P_if_eq 12 d_Rows_isFinite_5 (by decide) (fun c1 => ?_) (fun c1 => ?_)
  · refine P_iconst (v := 0) d_Rows_isFinite_12 (by decide) ?_
    exact P_zret d_Rows_isFinite_13 rfl rfl (le_b rfl) (le_b rfl) ⟨⟨false, rfl⟩, rfl⟩
  · refine P_iconst (v := 1) d_Rows_isFinite_8 (by decide) ?_
    refine P_goto 13 d_Rows_isFinite_9 (by decide) ?_
    exact P_zret d_Rows_isFinite_13 rfl rfl (le_b rfl) (le_b rfl) ⟨⟨true, rfl⟩, rfl⟩
theorem s_Rows_determinant {G : pG} {w : pW} {p : Nat} {fp : Nat → Int64} (hp : w.2 p = .inl (1, 3, .inr (.inl fp))) {q : Nat} {fq : Nat → Int64} (hq : w.2 q = .inl (1, 3, .inr (.inl fq))) {s : Nat} {fs : Nat → Int64} (hs : w.2 s = .inl (1, 3, .inr (.inl fs))) : PM G M_Rows_determinant 0 0 0 [.ref p, .ref q, .ref s] w (fun r w' => (∃ v, r = some (.long v)) ∧ w' = w) := by
  refine PM_of pn_Rows_determinant (le_b rfl) ?_
  show PW _ _ _ _ _ _ (0, [(0, .ref p), (1, .ref q), (2, .ref s)], [], w)
  refine P_aload_n d_Rows_determinant_0 rfl ?_
  refine P_iconst (v := 0) d_Rows_determinant_1 (by decide) ?_
  refine P_lald (j := 0) d_Rows_determinant_2 hp ⟨by decide, by decide⟩ (by decide) ?_
  refine P_aload_n d_Rows_determinant_3 rfl ?_
  refine P_iconst (v := 1) d_Rows_determinant_4 (by decide) ?_
  refine P_lald (j := 1) d_Rows_determinant_5 hq ⟨by decide, by decide⟩ (by decide) ?_
  refine P_aload_n d_Rows_determinant_6 rfl ?_
  refine P_iconst (v := 2) d_Rows_determinant_7 (by decide) ?_
  refine P_lald (j := 2) d_Rows_determinant_8 hs ⟨by decide, by decide⟩ (by decide) ?_
  refine P_lmul d_Rows_determinant_9 ?_
  refine P_aload_n d_Rows_determinant_10 rfl ?_
  refine P_iconst (v := 2) d_Rows_determinant_11 (by decide) ?_
  refine P_lald (j := 2) d_Rows_determinant_12 hq ⟨by decide, by decide⟩ (by decide) ?_
  refine P_aload_n d_Rows_determinant_13 rfl ?_
  refine P_iconst (v := 1) d_Rows_determinant_14 (by decide) ?_
  refine P_lald (j := 1) d_Rows_determinant_15 hs ⟨by decide, by decide⟩ (by decide) ?_
  refine P_lmul d_Rows_determinant_16 ?_
  refine P_lsub d_Rows_determinant_17 ?_
  refine P_lmul d_Rows_determinant_18 ?_
  refine P_aload_n d_Rows_determinant_19 rfl ?_
  refine P_iconst (v := 1) d_Rows_determinant_20 (by decide) ?_
  refine P_lald (j := 1) d_Rows_determinant_21 hp ⟨by decide, by decide⟩ (by decide) ?_
  refine P_aload_n d_Rows_determinant_22 rfl ?_
  refine P_iconst (v := 2) d_Rows_determinant_23 (by decide) ?_
  refine P_lald (j := 2) d_Rows_determinant_24 hq ⟨by decide, by decide⟩ (by decide) ?_
  refine P_aload_n d_Rows_determinant_25 rfl ?_
  refine P_iconst (v := 0) d_Rows_determinant_26 (by decide) ?_
  refine P_lald (j := 0) d_Rows_determinant_27 hs ⟨by decide, by decide⟩ (by decide) ?_
  refine P_lmul d_Rows_determinant_28 ?_
  refine P_aload_n d_Rows_determinant_29 rfl ?_
  refine P_iconst (v := 0) d_Rows_determinant_30 (by decide) ?_
  refine P_lald (j := 0) d_Rows_determinant_31 hq ⟨by decide, by decide⟩ (by decide) ?_
  refine P_aload_n d_Rows_determinant_32 rfl ?_
  refine P_iconst (v := 2) d_Rows_determinant_33 (by decide) ?_
  refine P_lald (j := 2) d_Rows_determinant_34 hs ⟨by decide, by decide⟩ (by decide) ?_
  refine P_lmul d_Rows_determinant_35 ?_
  refine P_lsub d_Rows_determinant_36 ?_
  refine P_lmul d_Rows_determinant_37 ?_
  refine P_ladd d_Rows_determinant_38 ?_
  generalize ((fp 0) * (((fq 1) * (fs 2)) - ((fq 2) * (fs 1)))) + ((fp 1) * (((fq 2) * (fs 0)) - ((fq 0) * (fs 2)))) = zz1
  show PW _ _ _ _ _ _ (39, [(0, .ref p), (1, .ref q), (2, .ref s)], [.long zz1], w)
  refine P_aload_n d_Rows_determinant_39 rfl ?_
  refine P_iconst (v := 2) d_Rows_determinant_40 (by decide) ?_
  refine P_lald (j := 2) d_Rows_determinant_41 hp ⟨by decide, by decide⟩ (by decide) ?_
  refine P_aload_n d_Rows_determinant_42 rfl ?_
  refine P_iconst (v := 0) d_Rows_determinant_43 (by decide) ?_
  refine P_lald (j := 0) d_Rows_determinant_44 hq ⟨by decide, by decide⟩ (by decide) ?_
  refine P_aload_n d_Rows_determinant_45 rfl ?_
  refine P_iconst (v := 1) d_Rows_determinant_46 (by decide) ?_
  refine P_lald (j := 1) d_Rows_determinant_47 hs ⟨by decide, by decide⟩ (by decide) ?_
  refine P_lmul d_Rows_determinant_48 ?_
  refine P_aload_n d_Rows_determinant_49 rfl ?_
  refine P_iconst (v := 1) d_Rows_determinant_50 (by decide) ?_
  refine P_lald (j := 1) d_Rows_determinant_51 hq ⟨by decide, by decide⟩ (by decide) ?_
  refine P_aload_n d_Rows_determinant_52 rfl ?_
  refine P_iconst (v := 0) d_Rows_determinant_53 (by decide) ?_
  refine P_lald (j := 0) d_Rows_determinant_54 hs ⟨by decide, by decide⟩ (by decide) ?_
  refine P_lmul d_Rows_determinant_55 ?_
  refine P_lsub d_Rows_determinant_56 ?_
  refine P_lmul d_Rows_determinant_57 ?_
  refine P_ladd d_Rows_determinant_58 ?_
  exact P_lret d_Rows_determinant_59 rfl (le_b rfl) (le_b rfl) ⟨⟨_, rfl⟩, rfl⟩
theorem s_Rows_through {G : pG} {w : pW} {p : Nat} {fp : Nat → Int64} (hp : w.2 p = .inl (1, 3, .inr (.inl fp))) {q : Nat} {fq : Nat → Int64} (hq : w.2 q = .inl (1, 3, .inr (.inl fq))) {o : Nat} {fo : Nat → Int64} (ho : w.2 o = .inl (1, 3, .inr (.inl fo))) (hxo : o < 1000000) (np : p ≠ o) (nq : q ≠ o) : PM G M_Rows_through 3 0 0 [.ref p, .ref q, .ref o] w (fun r w' => (∃ v, r = some (.int (bi v))) ∧ W1 o 3 w w') := by
  refine PM_of pn_Rows_through (le_b rfl) ?_
  show PW _ _ _ _ _ _ (0, [(0, .ref p), (1, .ref q), (2, .ref o)], [], w)
  have hW0 : W1 o 3 w w := W1.rf ho
  refine P_aload_n d_Rows_through_0 rfl ?_
  refine P_iconst (v := 0) d_Rows_through_1 (by decide) ?_
  refine P_aload_n d_Rows_through_2 rfl ?_
  refine P_iconst (v := 1) d_Rows_through_3 (by decide) ?_
  refine P_lald (j := 1) d_Rows_through_4 hp ⟨by decide, by decide⟩ (by decide) ?_
  refine P_aload_n d_Rows_through_5 rfl ?_
  refine P_iconst (v := 2) d_Rows_through_6 (by decide) ?_
  refine P_lald (j := 2) d_Rows_through_7 hq ⟨by decide, by decide⟩ (by decide) ?_
  refine P_lmul d_Rows_through_8 ?_
  refine P_aload_n d_Rows_through_9 rfl ?_
  refine P_iconst (v := 2) d_Rows_through_10 (by decide) ?_
  refine P_lald (j := 2) d_Rows_through_11 hp ⟨by decide, by decide⟩ (by decide) ?_
  refine P_aload_n d_Rows_through_12 rfl ?_
  refine P_iconst (v := 1) d_Rows_through_13 (by decide) ?_
  refine P_lald (j := 1) d_Rows_through_14 hq ⟨by decide, by decide⟩ (by decide) ?_
  refine P_lmul d_Rows_through_15 ?_
  refine P_lsub d_Rows_through_16 ?_
  refine P_lastG (j := 0) d_Rows_through_17 ho hxo ⟨by decide, by decide⟩ (by decide) (fun w1 e1 s1 n1 z1 => ?_)
  generalize vp_updL _ _ _ = g2 at e1 s1
  have hW1 : W1 o 3 w w1 := W1.st hW0 e1
  show PW _ _ _ _ _ _ (18, [(0, .ref p), (1, .ref q), (2, .ref o)], [], w1)
  refine P_aload_n d_Rows_through_18 rfl ?_
  refine P_iconst (v := 1) d_Rows_through_19 (by decide) ?_
  refine P_aload_n d_Rows_through_20 rfl ?_
  refine P_iconst (v := 2) d_Rows_through_21 (by decide) ?_
  refine P_lald (j := 2) d_Rows_through_22 ((w_n e1 _ np).trans hp) ⟨by decide, by decide⟩ (by decide) ?_
  refine P_aload_n d_Rows_through_23 rfl ?_
  refine P_iconst (v := 0) d_Rows_through_24 (by decide) ?_
  refine P_lald (j := 0) d_Rows_through_25 ((w_n e1 _ nq).trans hq) ⟨by decide, by decide⟩ (by decide) ?_
  refine P_lmul d_Rows_through_26 ?_
  refine P_aload_n d_Rows_through_27 rfl ?_
  refine P_iconst (v := 0) d_Rows_through_28 (by decide) ?_
  refine P_lald (j := 0) d_Rows_through_29 ((w_n e1 _ np).trans hp) ⟨by decide, by decide⟩ (by decide) ?_
  refine P_aload_n d_Rows_through_30 rfl ?_
  refine P_iconst (v := 2) d_Rows_through_31 (by decide) ?_
  refine P_lald (j := 2) d_Rows_through_32 ((w_n e1 _ nq).trans hq) ⟨by decide, by decide⟩ (by decide) ?_
  refine P_lmul d_Rows_through_33 ?_
  refine P_lsub d_Rows_through_34 ?_
  refine P_lastG (j := 1) d_Rows_through_35 s1 hxo ⟨by decide, by decide⟩ (by decide) (fun w3 e3 s3 n3 z3 => ?_)
  generalize vp_updL _ _ _ = g4 at e3 s3
  have hW3 : W1 o 3 w w3 := W1.st hW1 e3
  show PW _ _ _ _ _ _ (36, [(0, .ref p), (1, .ref q), (2, .ref o)], [], w3)
  refine P_aload_n d_Rows_through_36 rfl ?_
  refine P_iconst (v := 2) d_Rows_through_37 (by decide) ?_
  refine P_aload_n d_Rows_through_38 rfl ?_
  refine P_iconst (v := 0) d_Rows_through_39 (by decide) ?_
  refine P_lald (j := 0) d_Rows_through_40 ((w_n e3 _ np).trans ((w_n e1 _ np).trans hp)) ⟨by decide, by decide⟩ (by decide) ?_
  refine P_aload_n d_Rows_through_41 rfl ?_
  refine P_iconst (v := 1) d_Rows_through_42 (by decide) ?_
  refine P_lald (j := 1) d_Rows_through_43 ((w_n e3 _ nq).trans ((w_n e1 _ nq).trans hq)) ⟨by decide, by decide⟩ (by decide) ?_
  refine P_lmul d_Rows_through_44 ?_
  refine P_aload_n d_Rows_through_45 rfl ?_
  refine P_iconst (v := 1) d_Rows_through_46 (by decide) ?_
  refine P_lald (j := 1) d_Rows_through_47 ((w_n e3 _ np).trans ((w_n e1 _ np).trans hp)) ⟨by decide, by decide⟩ (by decide) ?_
  refine P_aload_n d_Rows_through_48 rfl ?_
  refine P_iconst (v := 0) d_Rows_through_49 (by decide) ?_
  refine P_lald (j := 0) d_Rows_through_50 ((w_n e3 _ nq).trans ((w_n e1 _ nq).trans hq)) ⟨by decide, by decide⟩ (by decide) ?_
  refine P_lmul d_Rows_through_51 ?_
  refine P_lsub d_Rows_through_52 ?_
  refine P_lastG (j := 2) d_Rows_through_53 s3 hxo ⟨by decide, by decide⟩ (by decide) (fun w5 e5 s5 n5 z5 => ?_)
  generalize vp_updL _ _ _ = g6 at e5 s5
  have hW5 : W1 o 3 w w5 := W1.st hW3 e5
  show PW _ _ _ _ _ _ (54, [(0, .ref p), (1, .ref q), (2, .ref o)], [], w5)
  refine P_aload_n d_Rows_through_54 rfl ?_
  refine P_callS (M := M_Rows_through) (pc := 55) (as := [.ref o]) d_Rows_through_55 co_Rows_reduce L_Rows_44 sm_Rows_reduce (v_Rows_reduce s5 (by decide) (by decide) hxo) rfl ⟨by decide, by decide⟩ ⟨by decide, by decide⟩ (by exact le_b rfl) ?_ _ rfl
  rintro _ w7 ⟨rfl, e7⟩
  have s7 := w_s e7
  generalize rdC _ _ = g8 at e7 s7
  have hW7 : W1 o 3 w w7 := W1.st hW5 e7
  show PW _ _ _ _ _ _ (58, [(0, .ref p), (1, .ref q), (2, .ref o)], [], w7)
  refine P_aload_n d_Rows_through_58 rfl ?_
  refine P_iconst (v := 0) d_Rows_through_59 (by decide) ?_
  refine P_lald (j := 0) d_Rows_through_60 s7 ⟨by decide, by decide⟩ (by decide) ?_
  refine P_lconst (v := 0) d_Rows_through_61 (by decide) ?_
  refine P_lcmp d_Rows_through_62 ?_
  refine P_if_ne 82 d_Rows_through_63 (by decide) (fun c9 => ?_) (fun c9 => ?_)
  · refine P_iconst (v := 1) d_Rows_through_82 (by decide) ?_
    refine P_goto 87 d_Rows_through_83 (by decide) ?_
    exact P_zret d_Rows_through_87 rfl rfl (le_b rfl) (le_b rfl) ⟨⟨true, rfl⟩, hW7⟩
  · refine P_aload_n d_Rows_through_66 rfl ?_
    refine P_iconst (v := 1) d_Rows_through_67 (by decide) ?_
    refine P_lald (j := 1) d_Rows_through_68 s7 ⟨by decide, by decide⟩ (by decide) ?_
    refine P_lconst (v := 0) d_Rows_through_69 (by decide) ?_
    refine P_lcmp d_Rows_through_70 ?_
    refine P_if_ne 82 d_Rows_through_71 (by decide) (fun c10 => ?_) (fun c10 => ?_)
    · refine P_iconst (v := 1) d_Rows_through_82 (by decide) ?_
      refine P_goto 87 d_Rows_through_83 (by decide) ?_
      exact P_zret d_Rows_through_87 rfl rfl (le_b rfl) (le_b rfl) ⟨⟨true, rfl⟩, hW7⟩
    · refine P_aload_n d_Rows_through_74 rfl ?_
      refine P_iconst (v := 2) d_Rows_through_75 (by decide) ?_
      refine P_lald (j := 2) d_Rows_through_76 s7 ⟨by decide, by decide⟩ (by decide) ?_
      refine P_lconst (v := 0) d_Rows_through_77 (by decide) ?_
      refine P_lcmp d_Rows_through_78 ?_
      refine P_if_eq 86 d_Rows_through_79 (by decide) (fun c11 => ?_) (fun c11 => ?_)
      · refine P_iconst (v := 0) d_Rows_through_86 (by decide) ?_
        exact P_zret d_Rows_through_87 rfl rfl (le_b rfl) (le_b rfl) ⟨⟨false, rfl⟩, hW7⟩
      · refine P_iconst (v := 1) d_Rows_through_82 (by decide) ?_
        refine P_goto 87 d_Rows_through_83 (by decide) ?_
        exact P_zret d_Rows_through_87 rfl rfl (le_b rfl) (le_b rfl) ⟨⟨true, rfl⟩, hW7⟩
theorem s_Maps_isLarge {G : pG} {w : pW} {p : Nat} {fp : Nat → Int64} (hp : w.2 p = .inl (1, 9, .inr (.inl fp))) : PM G M_Maps_isLarge 2 0 0 [.ref p] w (fun r w' => (∃ v, r = some (.int (bi v))) ∧ w' = w) := by
  refine PM_of pn_Maps_isLarge (le_b rfl) ?_
  show PW _ _ _ _ _ _ (0, [(0, .ref p)], [], w)
  refine P_aload_n d_Maps_isLarge_0 rfl ?_
  refine P_callS (M := M_Maps_isLarge) (pc := 1) (as := [.ref p]) d_Maps_isLarge_1 co_Rows_greatest L_Maps_9 sm_Rows_greatest (s_Rows_greatest (by decide) (by decide) hp) rfl ⟨by decide, by decide⟩ ⟨by decide, by decide⟩ (by exact le_b rfl) ?_ _ rfl
  rintro _ u ⟨⟨v1, rfl⟩, eu⟩
  subst u
  show PW _ _ _ _ _ _ (4, [(0, .ref p)], [.long v1], w)
  refine P_ldc2 (v := 1000000000) d_Maps_isLarge_4 L_Maps_15 ?_
  refine P_lcmp d_Maps_isLarge_7 ?_
  refine P_if_le 15 d_Maps_isLarge_8 (by decide) (fun c2 => ?_) (fun c2 => ?_)
  · refine P_iconst (v := 0) d_Maps_isLarge_15 (by decide) ?_
    exact P_zret d_Maps_isLarge_16 rfl rfl (le_b rfl) (le_b rfl) ⟨⟨false, rfl⟩, rfl⟩
  · refine P_iconst (v := 1) d_Maps_isLarge_11 (by decide) ?_
    refine P_goto 16 d_Maps_isLarge_12 (by decide) ?_
    exact P_zret d_Maps_isLarge_16 rfl rfl (le_b rfl) (le_b rfl) ⟨⟨true, rfl⟩, rfl⟩
theorem s_Maps_height {G : pG} {w : pW} {p : Nat} {fp : Nat → Int64} (hp : w.2 p = .inl (1, 9, .inr (.inl fp))) {q : Nat} {fq : Nat → Int64} (hq : w.2 q = .inl (1, 3, .inr (.inl fq))) : PM G M_Maps_height 0 0 0 [.ref p, .ref q] w (fun r w' => (∃ v, r = some (.long v)) ∧ w' = w) := by
  refine PM_of pn_Maps_height (le_b rfl) ?_
  show PW _ _ _ _ _ _ (0, [(0, .ref p), (1, .ref q)], [], w)
  refine P_aload_n d_Maps_height_0 rfl ?_
  refine P_bipush (v := 6) d_Maps_height_1 (by decide) ?_
  refine P_lald (j := 6) d_Maps_height_3 hp ⟨by decide, by decide⟩ (by decide) ?_
  refine P_aload_n d_Maps_height_4 rfl ?_
  refine P_iconst (v := 0) d_Maps_height_5 (by decide) ?_
  refine P_lald (j := 0) d_Maps_height_6 hq ⟨by decide, by decide⟩ (by decide) ?_
  refine P_lmul d_Maps_height_7 ?_
  refine P_aload_n d_Maps_height_8 rfl ?_
  refine P_bipush (v := 7) d_Maps_height_9 (by decide) ?_
  refine P_lald (j := 7) d_Maps_height_11 hp ⟨by decide, by decide⟩ (by decide) ?_
  refine P_aload_n d_Maps_height_12 rfl ?_
  refine P_iconst (v := 1) d_Maps_height_13 (by decide) ?_
  refine P_lald (j := 1) d_Maps_height_14 hq ⟨by decide, by decide⟩ (by decide) ?_
  refine P_lmul d_Maps_height_15 ?_
  refine P_ladd d_Maps_height_16 ?_
  refine P_aload_n d_Maps_height_17 rfl ?_
  refine P_bipush (v := 8) d_Maps_height_18 (by decide) ?_
  refine P_lald (j := 8) d_Maps_height_20 hp ⟨by decide, by decide⟩ (by decide) ?_
  refine P_aload_n d_Maps_height_21 rfl ?_
  refine P_iconst (v := 2) d_Maps_height_22 (by decide) ?_
  refine P_lald (j := 2) d_Maps_height_23 hq ⟨by decide, by decide⟩ (by decide) ?_
  refine P_lmul d_Maps_height_24 ?_
  refine P_ladd d_Maps_height_25 ?_
  exact P_lret d_Maps_height_26 rfl (le_b rfl) (le_b rfl) ⟨⟨_, rfl⟩, rfl⟩
theorem s_Maps_apply {G : pG} {w : pW} {p : Nat} {fp : Nat → Int64} (hp : w.2 p = .inl (1, 9, .inr (.inl fp))) {q : Nat} {fq : Nat → Int64} (hq : w.2 q = .inl (1, 3, .inr (.inl fq))) {o : Nat} {fo : Nat → Int64} (ho : w.2 o = .inl (1, 3, .inr (.inl fo))) (hxo : o < 1000000) (np : p ≠ o) (nq : q ≠ o) : PM G M_Maps_apply 3 0 0 [.ref p, .ref q, .ref o] w (fun r w' => r = none ∧ W1 o 3 w w') := by
  refine PM_of pn_Maps_apply (le_b rfl) ?_
  show PW _ _ _ _ _ _ (0, [(0, .ref p), (1, .ref q), (2, .ref o)], [], w)
  have hW0 : W1 o 3 w w := W1.rf ho
  refine P_iconst (v := 0) d_Maps_apply_0 (by decide) ?_
  refine P_istore_n d_Maps_apply_1 (by decide) rfl ?_
  refine PW_ind (σ := pW) (3) (fun jj ss => W1 o 3 w (ss)) (fun jj ss => (2, [(0, .ref p), (1, .ref q), (2, .ref o), (3, .int (nI jj))], [], ss)) ?_ ?_ 0 (w) (by omega) (hW0)
  · rintro uj1 hWj1
    obtain ⟨f2, f2e⟩ := W1.at hWj1
    show PW _ _ _ _ _ _ (2, [(0, .ref p), (1, .ref q), (2, .ref o), (3, .int 3)], [], uj1)
    refine P_iload_n d_Maps_apply_2 rfl ?_
    refine P_iconst (v := 3) d_Maps_apply_3 (by decide) ?_
    refine P_icmp_ge 49 d_Maps_apply_4 (by decide) (fun _ => ?_) (fun h => absurd (by decide) h)
    refine P_aload_n d_Maps_apply_49 rfl ?_
    refine P_callS (M := M_Maps_apply) (pc := 50) (as := [.ref o]) d_Maps_apply_50 co_Rows_reduce L_Maps_17 sm_Rows_reduce (v_Rows_reduce f2e (by decide) (by decide) hxo) rfl ⟨by decide, by decide⟩ ⟨by decide, by decide⟩ (by exact le_b rfl) ?_ _ rfl
    rintro _ w3 ⟨rfl, e3⟩
    have s3 := w_s e3
    generalize rdC _ _ = g4 at e3 s3
    have hW3 : W1 o 3 w w3 := W1.st hWj1 e3
    show PW _ _ _ _ _ _ (53, [(0, .ref p), (1, .ref q), (2, .ref o), (3, .int 3)], [], w3)
    exact P_vret d_Maps_apply_53 rfl (le_b rfl) (le_b rfl) ⟨rfl, hW3⟩
  · rintro j1 uj1 hj1 hWj1 kkj1
    obtain ⟨f5, f5e⟩ := W1.at hWj1
    show PW _ _ _ _ _ _ (2, [(0, .ref p), (1, .ref q), (2, .ref o), (3, .int (nI j1))], [], uj1)
    refine P_iload_n d_Maps_apply_2 rfl ?_
    refine P_iconst (v := 3) d_Maps_apply_3 (by decide) ?_
    refine P_icmp_ge 49 d_Maps_apply_4 (by decide) (fun h => absurd h (nI_geF (a := j1) (b := 3) (by omega) (by omega))) (fun _ => ?_)
    refine P_aload_n d_Maps_apply_7 rfl ?_
    refine P_iload_n d_Maps_apply_8 rfl ?_
    refine P_aload_n d_Maps_apply_9 rfl ?_
    refine P_iconst (v := 3) d_Maps_apply_10 (by decide) ?_
    refine P_iload_n d_Maps_apply_11 rfl ?_
    refine P_imulN (a := 3) (b := j1) d_Maps_apply_12 ?_
    show PW _ _ _ _ _ _ (13, [(0, .ref p), (1, .ref q), (2, .ref o), (3, .int (nI j1))], [.int (nI (3 * j1)), .ref p, .int (nI j1), .ref o], uj1)
    refine P_lald (j := 3 * j1) d_Maps_apply_13 ((W1.ne hWj1 _ np).trans hp) (ix_nI (by omega)) (by omega) ?_
    refine P_aload_n d_Maps_apply_14 rfl ?_
    refine P_iconst (v := 0) d_Maps_apply_15 (by decide) ?_
    refine P_lald (j := 0) d_Maps_apply_16 ((W1.ne hWj1 _ nq).trans hq) ⟨by decide, by decide⟩ (by decide) ?_
    refine P_lmul d_Maps_apply_17 ?_
    refine P_aload_n d_Maps_apply_18 rfl ?_
    refine P_iconst (v := 3) d_Maps_apply_19 (by decide) ?_
    refine P_iload_n d_Maps_apply_20 rfl ?_
    refine P_imulN (a := 3) (b := j1) d_Maps_apply_21 ?_
    show PW _ _ _ _ _ _ (22, [(0, .ref p), (1, .ref q), (2, .ref o), (3, .int (nI j1))], [.int (nI (3 * j1)), .ref p, .long ((fp (3 * j1)) * (fq 0)), .int (nI j1), .ref o], uj1)
    refine P_iconst (v := 1) d_Maps_apply_22 (by decide) ?_
    refine P_iaddN (a := (3 * j1)) (b := 1) d_Maps_apply_23 ?_
    show PW _ _ _ _ _ _ (24, [(0, .ref p), (1, .ref q), (2, .ref o), (3, .int (nI j1))], [.int (nI ((3 * j1) + 1)), .ref p, .long ((fp (3 * j1)) * (fq 0)), .int (nI j1), .ref o], uj1)
    refine P_lald (j := (3 * j1) + 1) d_Maps_apply_24 ((W1.ne hWj1 _ np).trans hp) (ix_nI (by omega)) (by omega) ?_
    refine P_aload_n d_Maps_apply_25 rfl ?_
    refine P_iconst (v := 1) d_Maps_apply_26 (by decide) ?_
    refine P_lald (j := 1) d_Maps_apply_27 ((W1.ne hWj1 _ nq).trans hq) ⟨by decide, by decide⟩ (by decide) ?_
    refine P_lmul d_Maps_apply_28 ?_
    refine P_ladd d_Maps_apply_29 ?_
    refine P_aload_n d_Maps_apply_30 rfl ?_
    refine P_iconst (v := 3) d_Maps_apply_31 (by decide) ?_
    refine P_iload_n d_Maps_apply_32 rfl ?_
    refine P_imulN (a := 3) (b := j1) d_Maps_apply_33 ?_
    show PW _ _ _ _ _ _ (34, [(0, .ref p), (1, .ref q), (2, .ref o), (3, .int (nI j1))], [.int (nI (3 * j1)), .ref p, .long (((fp (3 * j1)) * (fq 0)) + ((fp ((3 * j1) + 1)) * (fq 1))), .int (nI j1), .ref o], uj1)
    refine P_iconst (v := 2) d_Maps_apply_34 (by decide) ?_
    refine P_iaddN (a := (3 * j1)) (b := 2) d_Maps_apply_35 ?_
    show PW _ _ _ _ _ _ (36, [(0, .ref p), (1, .ref q), (2, .ref o), (3, .int (nI j1))], [.int (nI ((3 * j1) + 2)), .ref p, .long (((fp (3 * j1)) * (fq 0)) + ((fp ((3 * j1) + 1)) * (fq 1))), .int (nI j1), .ref o], uj1)
    refine P_lald (j := (3 * j1) + 2) d_Maps_apply_36 ((W1.ne hWj1 _ np).trans hp) (ix_nI (by omega)) (by omega) ?_
    refine P_aload_n d_Maps_apply_37 rfl ?_
    refine P_iconst (v := 2) d_Maps_apply_38 (by decide) ?_
    refine P_lald (j := 2) d_Maps_apply_39 ((W1.ne hWj1 _ nq).trans hq) ⟨by decide, by decide⟩ (by decide) ?_
    refine P_lmul d_Maps_apply_40 ?_
    refine P_ladd d_Maps_apply_41 ?_
    generalize (((fp (3 * j1)) * (fq 0)) + ((fp ((3 * j1) + 1)) * (fq 1))) + ((fp ((3 * j1) + 2)) * (fq 2)) = zz6
    show PW _ _ _ _ _ _ (42, [(0, .ref p), (1, .ref q), (2, .ref o), (3, .int (nI j1))], [.long zz6, .int (nI j1), .ref o], uj1)
    refine P_lastG (j := j1) d_Maps_apply_42 f5e hxo (ix_nI (by omega)) (by omega) (fun w7 e7 s7 n7 z7 => ?_)
    generalize vp_updL _ _ _ = g8 at e7 s7
    have hW7 : W1 o 3 w w7 := W1.st hWj1 e7
    show PW _ _ _ _ _ _ (43, [(0, .ref p), (1, .ref q), (2, .ref o), (3, .int (nI j1))], [], w7)
    refine P_iinc (v := nI (j1 + 1)) d_Maps_apply_43 (by decide) rfl (nI_add j1 1) rfl ?_
    refine P_goto 2 d_Maps_apply_46 (by decide) ?_
    exact kkj1 (w7) (hW7)
theorem s_Maps_pullBack {G : pG} {w : pW} {p : Nat} {fp : Nat → Int64} (hp : w.2 p = .inl (1, 9, .inr (.inl fp))) {q : Nat} {fq : Nat → Int64} (hq : w.2 q = .inl (1, 3, .inr (.inl fq))) {o : Nat} {fo : Nat → Int64} (ho : w.2 o = .inl (1, 3, .inr (.inl fo))) (hxo : o < 1000000) (np : p ≠ o) (nq : q ≠ o) : PM G M_Maps_pullBack 3 0 0 [.ref p, .ref q, .ref o] w (fun r w' => r = none ∧ W1 o 3 w w') := by
  refine PM_of pn_Maps_pullBack (le_b rfl) ?_
  show PW _ _ _ _ _ _ (0, [(0, .ref p), (1, .ref q), (2, .ref o)], [], w)
  have hW0 : W1 o 3 w w := W1.rf ho
  refine P_iconst (v := 0) d_Maps_pullBack_0 (by decide) ?_
  refine P_istore_n d_Maps_pullBack_1 (by decide) rfl ?_
  refine PW_ind (σ := pW) (3) (fun jj ss => W1 o 3 w (ss)) (fun jj ss => (2, [(0, .ref p), (1, .ref q), (2, .ref o), (3, .int (nI jj))], [], ss)) ?_ ?_ 0 (w) (by omega) (hW0)
  · rintro uj1 hWj1
    obtain ⟨f2, f2e⟩ := W1.at hWj1
    show PW _ _ _ _ _ _ (2, [(0, .ref p), (1, .ref q), (2, .ref o), (3, .int 3)], [], uj1)
    refine P_iload_n d_Maps_pullBack_2 rfl ?_
    refine P_iconst (v := 3) d_Maps_pullBack_3 (by decide) ?_
    refine P_icmp_ge 44 d_Maps_pullBack_4 (by decide) (fun _ => ?_) (fun h => absurd (by decide) h)
    refine P_aload_n d_Maps_pullBack_44 rfl ?_
    refine P_callS (M := M_Maps_pullBack) (pc := 45) (as := [.ref o]) d_Maps_pullBack_45 co_Rows_reduce L_Maps_17 sm_Rows_reduce (v_Rows_reduce f2e (by decide) (by decide) hxo) rfl ⟨by decide, by decide⟩ ⟨by decide, by decide⟩ (by exact le_b rfl) ?_ _ rfl
    rintro _ w3 ⟨rfl, e3⟩
    have s3 := w_s e3
    generalize rdC _ _ = g4 at e3 s3
    have hW3 : W1 o 3 w w3 := W1.st hWj1 e3
    show PW _ _ _ _ _ _ (48, [(0, .ref p), (1, .ref q), (2, .ref o), (3, .int 3)], [], w3)
    exact P_vret d_Maps_pullBack_48 rfl (le_b rfl) (le_b rfl) ⟨rfl, hW3⟩
  · rintro j1 uj1 hj1 hWj1 kkj1
    obtain ⟨f5, f5e⟩ := W1.at hWj1
    show PW _ _ _ _ _ _ (2, [(0, .ref p), (1, .ref q), (2, .ref o), (3, .int (nI j1))], [], uj1)
    refine P_iload_n d_Maps_pullBack_2 rfl ?_
    refine P_iconst (v := 3) d_Maps_pullBack_3 (by decide) ?_
    refine P_icmp_ge 44 d_Maps_pullBack_4 (by decide) (fun h => absurd h (nI_geF (a := j1) (b := 3) (by omega) (by omega))) (fun _ => ?_)
    refine P_aload_n d_Maps_pullBack_7 rfl ?_
    refine P_iload_n d_Maps_pullBack_8 rfl ?_
    refine P_aload_n d_Maps_pullBack_9 rfl ?_
    refine P_iload_n d_Maps_pullBack_10 rfl ?_
    refine P_lald (j := j1) d_Maps_pullBack_11 ((W1.ne hWj1 _ np).trans hp) (ix_nI (by omega)) (by omega) ?_
    refine P_aload_n d_Maps_pullBack_12 rfl ?_
    refine P_iconst (v := 0) d_Maps_pullBack_13 (by decide) ?_
    refine P_lald (j := 0) d_Maps_pullBack_14 ((W1.ne hWj1 _ nq).trans hq) ⟨by decide, by decide⟩ (by decide) ?_
    refine P_lmul d_Maps_pullBack_15 ?_
    refine P_aload_n d_Maps_pullBack_16 rfl ?_
    refine P_iconst (v := 3) d_Maps_pullBack_17 (by decide) ?_
    refine P_iload_n d_Maps_pullBack_18 rfl ?_
    refine P_iaddN (a := 3) (b := j1) d_Maps_pullBack_19 ?_
    show PW _ _ _ _ _ _ (20, [(0, .ref p), (1, .ref q), (2, .ref o), (3, .int (nI j1))], [.int (nI (3 + j1)), .ref p, .long ((fp j1) * (fq 0)), .int (nI j1), .ref o], uj1)
    refine P_lald (j := 3 + j1) d_Maps_pullBack_20 ((W1.ne hWj1 _ np).trans hp) (ix_nI (by omega)) (by omega) ?_
    refine P_aload_n d_Maps_pullBack_21 rfl ?_
    refine P_iconst (v := 1) d_Maps_pullBack_22 (by decide) ?_
    refine P_lald (j := 1) d_Maps_pullBack_23 ((W1.ne hWj1 _ nq).trans hq) ⟨by decide, by decide⟩ (by decide) ?_
    refine P_lmul d_Maps_pullBack_24 ?_
    refine P_ladd d_Maps_pullBack_25 ?_
    refine P_aload_n d_Maps_pullBack_26 rfl ?_
    refine P_bipush (v := 6) d_Maps_pullBack_27 (by decide) ?_
    refine P_iload_n d_Maps_pullBack_29 rfl ?_
    refine P_iaddN (a := 6) (b := j1) d_Maps_pullBack_30 ?_
    show PW _ _ _ _ _ _ (31, [(0, .ref p), (1, .ref q), (2, .ref o), (3, .int (nI j1))], [.int (nI (6 + j1)), .ref p, .long (((fp j1) * (fq 0)) + ((fp (3 + j1)) * (fq 1))), .int (nI j1), .ref o], uj1)
    refine P_lald (j := 6 + j1) d_Maps_pullBack_31 ((W1.ne hWj1 _ np).trans hp) (ix_nI (by omega)) (by omega) ?_
    refine P_aload_n d_Maps_pullBack_32 rfl ?_
    refine P_iconst (v := 2) d_Maps_pullBack_33 (by decide) ?_
    refine P_lald (j := 2) d_Maps_pullBack_34 ((W1.ne hWj1 _ nq).trans hq) ⟨by decide, by decide⟩ (by decide) ?_
    refine P_lmul d_Maps_pullBack_35 ?_
    refine P_ladd d_Maps_pullBack_36 ?_
    generalize (((fp j1) * (fq 0)) + ((fp (3 + j1)) * (fq 1))) + ((fp (6 + j1)) * (fq 2)) = zz6
    show PW _ _ _ _ _ _ (37, [(0, .ref p), (1, .ref q), (2, .ref o), (3, .int (nI j1))], [.long zz6, .int (nI j1), .ref o], uj1)
    refine P_lastG (j := j1) d_Maps_pullBack_37 f5e hxo (ix_nI (by omega)) (by omega) (fun w7 e7 s7 n7 z7 => ?_)
    generalize vp_updL _ _ _ = g8 at e7 s7
    have hW7 : W1 o 3 w w7 := W1.st hWj1 e7
    show PW _ _ _ _ _ _ (38, [(0, .ref p), (1, .ref q), (2, .ref o), (3, .int (nI j1))], [], w7)
    refine P_iinc (v := nI (j1 + 1)) d_Maps_pullBack_38 (by decide) rfl (nI_add j1 1) rfl ?_
    refine P_goto 2 d_Maps_pullBack_41 (by decide) ?_
    exact kkj1 (w7) (hW7)
theorem s_Maps_cuts {G : pG} {w : pW} {p : Nat} {fp : Nat → Int64} (hp : w.2 p = .inl (1, 9, .inr (.inl fp))) {q : Nat} {fq : Nat → Int64} (hq : w.2 q = .inl (1, 3, .inr (.inl fq))) {s : Nat} {fs : Nat → Int64} (hs : w.2 s = .inl (1, 3, .inr (.inl fs))) : PM G M_Maps_cuts 1 0 0 [.ref p, .ref q, .ref s] w (fun r w' => (∃ v, r = some (.int (bi v))) ∧ w' = w) := by
  refine PM_of pn_Maps_cuts (le_b rfl) ?_
  show PW _ _ _ _ _ _ (0, [(0, .ref p), (1, .ref q), (2, .ref s)], [], w)
  refine P_aload_n d_Maps_cuts_0 rfl ?_
  refine P_aload_n d_Maps_cuts_1 rfl ?_
  refine P_callS (M := M_Maps_cuts) (pc := 2) (as := [.ref p, .ref q]) d_Maps_cuts_2 co_Maps_height L_Maps_21 sm_Maps_height (s_Maps_height hp hq) rfl ⟨by decide, by decide⟩ ⟨by decide, by decide⟩ (by exact le_b rfl) ?_ _ rfl
  rintro _ u ⟨⟨v1, rfl⟩, eu⟩
  subst u
  show PW _ _ _ _ _ _ (5, [(0, .ref p), (1, .ref q), (2, .ref s)], [.long v1], w)
  refine P_callS (M := M_Maps_cuts) (pc := 5) (as := [.long v1]) d_Maps_cuts_5 co_Rows_sign L_Maps_27 sm_Rows_sign (s_Rows_sign v1) rfl ⟨by decide, by decide⟩ ⟨by decide, by decide⟩ (by exact le_b rfl) ?_ _ rfl
  rintro _ u ⟨⟨v2, rfl⟩, eu⟩
  subst u
  show PW _ _ _ _ _ _ (8, [(0, .ref p), (1, .ref q), (2, .ref s)], [.int v2], w)
  refine P_aload_n d_Maps_cuts_8 rfl ?_
  refine P_aload_n d_Maps_cuts_9 rfl ?_
  refine P_callS (M := M_Maps_cuts) (pc := 10) (as := [.ref p, .ref s]) d_Maps_cuts_10 co_Maps_height L_Maps_21 sm_Maps_height (s_Maps_height hp hs) rfl ⟨by decide, by decide⟩ ⟨by decide, by decide⟩ (by exact le_b rfl) ?_ _ rfl
  rintro _ u ⟨⟨v3, rfl⟩, eu⟩
  subst u
  show PW _ _ _ _ _ _ (13, [(0, .ref p), (1, .ref q), (2, .ref s)], [.long v3, .int v2], w)
  refine P_callS (M := M_Maps_cuts) (pc := 13) (as := [.long v3]) d_Maps_cuts_13 co_Rows_sign L_Maps_27 sm_Rows_sign (s_Rows_sign v3) rfl ⟨by decide, by decide⟩ ⟨by decide, by decide⟩ (by exact le_b rfl) ?_ _ rfl
  rintro _ u ⟨⟨v4, rfl⟩, eu⟩
  subst u
  show PW _ _ _ _ _ _ (16, [(0, .ref p), (1, .ref q), (2, .ref s)], [.int v4, .int v2], w)
  refine P_imul d_Maps_cuts_16 ?_
  refine P_if_gt 24 d_Maps_cuts_17 (by decide) (fun c5 => ?_) (fun c5 => ?_)
  · refine P_iconst (v := 0) d_Maps_cuts_24 (by decide) ?_
    exact P_zret d_Maps_cuts_25 rfl rfl (le_b rfl) (le_b rfl) ⟨⟨false, rfl⟩, rfl⟩
  · refine P_iconst (v := 1) d_Maps_cuts_20 (by decide) ?_
    refine P_goto 25 d_Maps_cuts_21 (by decide) ?_
    exact P_zret d_Maps_cuts_25 rfl rfl (le_b rfl) (le_b rfl) ⟨⟨true, rfl⟩, rfl⟩
theorem s_Maps_multiplyRaw {G : pG} {w : pW} {p : Nat} {fp : Nat → Int64} (hp : w.2 p = .inl (1, 9, .inr (.inl fp))) {q : Nat} {fq : Nat → Int64} (hq : w.2 q = .inl (1, 9, .inr (.inl fq))) {o : Nat} {fo : Nat → Int64} (ho : w.2 o = .inl (1, 9, .inr (.inl fo))) (hxo : o < 1000000) (np : p ≠ o) (nq : q ≠ o) : PM G M_Maps_multiplyRaw 0 0 0 [.ref p, .ref q, .ref o] w (fun r w' => r = none ∧ W1 o 9 w w') := by
  refine PM_of pn_Maps_multiplyRaw (le_b rfl) ?_
  show PW _ _ _ _ _ _ (0, [(0, .ref p), (1, .ref q), (2, .ref o)], [], w)
  have hW0 : W1 o 9 w w := W1.rf ho
  refine P_iconst (v := 0) d_Maps_multiplyRaw_0 (by decide) ?_
  refine P_istore_n d_Maps_multiplyRaw_1 (by decide) rfl ?_
  refine P_iload_n d_Maps_multiplyRaw_2 rfl ?_
  refine P_bipush (v := 9) d_Maps_multiplyRaw_3 (by decide) ?_
  refine P_icmp_ge 70 d_Maps_multiplyRaw_5 (by decide) (fun h => absurd h (by decide)) (fun _ => ?_)
  refine P_iconst (v := 0) d_Maps_multiplyRaw_8 (by decide) ?_
  refine P_istore d_Maps_multiplyRaw_9 (by decide) rfl ?_
  refine PW_ind (σ := pW) (3) (fun jj ss => W1 o 9 w (ss)) (fun jj ss => (11, [(0, .ref p), (1, .ref q), (2, .ref o), (3, .int 0), (4, .int (nI jj))], [], ss)) ?_ ?_ 0 (w) (by omega) (hW0)
  · rintro uj1 hWj1
    obtain ⟨f2, f2e⟩ := W1.at hWj1
    show PW _ _ _ _ _ _ (11, [(0, .ref p), (1, .ref q), (2, .ref o), (3, .int 0), (4, .int 3)], [], uj1)
    refine P_iload d_Maps_multiplyRaw_11 rfl ?_
    refine P_iconst (v := 3) d_Maps_multiplyRaw_13 (by decide) ?_
    refine P_icmp_ge 64 d_Maps_multiplyRaw_14 (by decide) (fun _ => ?_) (fun h => absurd (by decide) h)
    refine P_iinc (v := 3) d_Maps_multiplyRaw_64 (by decide) rfl (nI_add 0 3) rfl ?_
    refine P_goto 2 d_Maps_multiplyRaw_67 (by decide) ?_
    refine P_iload_n d_Maps_multiplyRaw_2 rfl ?_
    refine P_bipush (v := 9) d_Maps_multiplyRaw_3 (by decide) ?_
    refine P_icmp_ge 70 d_Maps_multiplyRaw_5 (by decide) (fun h => absurd h (by decide)) (fun _ => ?_)
    refine P_iconst (v := 0) d_Maps_multiplyRaw_8 (by decide) ?_
    refine P_istore d_Maps_multiplyRaw_9 (by decide) rfl ?_
    refine P_iload d_Maps_multiplyRaw_11 rfl ?_
    refine P_iconst (v := 3) d_Maps_multiplyRaw_13 (by decide) ?_
    refine P_icmp_ge 64 d_Maps_multiplyRaw_14 (by decide) (fun h => absurd h (by decide)) (fun _ => ?_)
    refine P_aload_n d_Maps_multiplyRaw_17 rfl ?_
    refine P_iload_n d_Maps_multiplyRaw_18 rfl ?_
    refine P_iload d_Maps_multiplyRaw_19 rfl ?_
    refine P_iaddN (a := 3) (b := 0) d_Maps_multiplyRaw_21 ?_
    show PW _ _ _ _ _ _ (22, [(0, .ref p), (1, .ref q), (2, .ref o), (3, .int 3), (4, .int 0)], [.int 3, .ref o], uj1)
    refine P_aload_n d_Maps_multiplyRaw_22 rfl ?_
    refine P_iload_n d_Maps_multiplyRaw_23 rfl ?_
    refine P_lald (j := 3) d_Maps_multiplyRaw_24 ((W1.ne hWj1 _ np).trans hp) ⟨by decide, by decide⟩ (by decide) ?_
    refine P_aload_n d_Maps_multiplyRaw_25 rfl ?_
    refine P_iload d_Maps_multiplyRaw_26 rfl ?_
    refine P_lald (j := 0) d_Maps_multiplyRaw_28 ((W1.ne hWj1 _ nq).trans hq) ⟨by decide, by decide⟩ (by decide) ?_
    refine P_lmul d_Maps_multiplyRaw_29 ?_
    refine P_aload_n d_Maps_multiplyRaw_30 rfl ?_
    refine P_iload_n d_Maps_multiplyRaw_31 rfl ?_
    refine P_iconst (v := 1) d_Maps_multiplyRaw_32 (by decide) ?_
    refine P_iaddN (a := 3) (b := 1) d_Maps_multiplyRaw_33 ?_
    show PW _ _ _ _ _ _ (34, [(0, .ref p), (1, .ref q), (2, .ref o), (3, .int 3), (4, .int 0)], [.int 4, .ref p, .long ((fp 3) * (fq 0)), .int 3, .ref o], uj1)
    refine P_lald (j := 4) d_Maps_multiplyRaw_34 ((W1.ne hWj1 _ np).trans hp) ⟨by decide, by decide⟩ (by decide) ?_
    refine P_aload_n d_Maps_multiplyRaw_35 rfl ?_
    refine P_iconst (v := 3) d_Maps_multiplyRaw_36 (by decide) ?_
    refine P_iload d_Maps_multiplyRaw_37 rfl ?_
    refine P_iaddN (a := 3) (b := 0) d_Maps_multiplyRaw_39 ?_
    show PW _ _ _ _ _ _ (40, [(0, .ref p), (1, .ref q), (2, .ref o), (3, .int 3), (4, .int 0)], [.int 3, .ref q, .long (fp 4), .long ((fp 3) * (fq 0)), .int 3, .ref o], uj1)
    refine P_lald (j := 3) d_Maps_multiplyRaw_40 ((W1.ne hWj1 _ nq).trans hq) ⟨by decide, by decide⟩ (by decide) ?_
    refine P_lmul d_Maps_multiplyRaw_41 ?_
    refine P_ladd d_Maps_multiplyRaw_42 ?_
    refine P_aload_n d_Maps_multiplyRaw_43 rfl ?_
    refine P_iload_n d_Maps_multiplyRaw_44 rfl ?_
    refine P_iconst (v := 2) d_Maps_multiplyRaw_45 (by decide) ?_
    refine P_iaddN (a := 3) (b := 2) d_Maps_multiplyRaw_46 ?_
    show PW _ _ _ _ _ _ (47, [(0, .ref p), (1, .ref q), (2, .ref o), (3, .int 3), (4, .int 0)], [.int 5, .ref p, .long (((fp 3) * (fq 0)) + ((fp 4) * (fq 3))), .int 3, .ref o], uj1)
    refine P_lald (j := 5) d_Maps_multiplyRaw_47 ((W1.ne hWj1 _ np).trans hp) ⟨by decide, by decide⟩ (by decide) ?_
    refine P_aload_n d_Maps_multiplyRaw_48 rfl ?_
    refine P_bipush (v := 6) d_Maps_multiplyRaw_49 (by decide) ?_
    refine P_iload d_Maps_multiplyRaw_51 rfl ?_
    refine P_iaddN (a := 6) (b := 0) d_Maps_multiplyRaw_53 ?_
    show PW _ _ _ _ _ _ (54, [(0, .ref p), (1, .ref q), (2, .ref o), (3, .int 3), (4, .int 0)], [.int 6, .ref q, .long (fp 5), .long (((fp 3) * (fq 0)) + ((fp 4) * (fq 3))), .int 3, .ref o], uj1)
    refine P_lald (j := 6) d_Maps_multiplyRaw_54 ((W1.ne hWj1 _ nq).trans hq) ⟨by decide, by decide⟩ (by decide) ?_
    refine P_lmul d_Maps_multiplyRaw_55 ?_
    refine P_ladd d_Maps_multiplyRaw_56 ?_
    refine P_lastG (j := 3) d_Maps_multiplyRaw_57 f2e hxo ⟨by decide, by decide⟩ (by decide) (fun w3 e3 s3 n3 z3 => ?_)
    generalize vp_updL _ _ _ = g4 at e3 s3
    have hW3 : W1 o 9 w w3 := W1.st hWj1 e3
    show PW _ _ _ _ _ _ (58, [(0, .ref p), (1, .ref q), (2, .ref o), (3, .int 3), (4, .int 0)], [], w3)
    refine P_iinc (v := 1) d_Maps_multiplyRaw_58 (by decide) rfl (nI_add 0 1) rfl ?_
    refine P_goto 11 d_Maps_multiplyRaw_61 (by decide) ?_
    refine P_iload d_Maps_multiplyRaw_11 rfl ?_
    refine P_iconst (v := 3) d_Maps_multiplyRaw_13 (by decide) ?_
    refine P_icmp_ge 64 d_Maps_multiplyRaw_14 (by decide) (fun h => absurd h (by decide)) (fun _ => ?_)
    refine P_aload_n d_Maps_multiplyRaw_17 rfl ?_
    refine P_iload_n d_Maps_multiplyRaw_18 rfl ?_
    refine P_iload d_Maps_multiplyRaw_19 rfl ?_
    refine P_iaddN (a := 3) (b := 1) d_Maps_multiplyRaw_21 ?_
    show PW _ _ _ _ _ _ (22, [(0, .ref p), (1, .ref q), (2, .ref o), (3, .int 3), (4, .int 1)], [.int 4, .ref o], w3)
    refine P_aload_n d_Maps_multiplyRaw_22 rfl ?_
    refine P_iload_n d_Maps_multiplyRaw_23 rfl ?_
    refine P_lald (j := 3) d_Maps_multiplyRaw_24 ((w_n e3 _ np).trans ((W1.ne hWj1 _ np).trans hp)) ⟨by decide, by decide⟩ (by decide) ?_
    refine P_aload_n d_Maps_multiplyRaw_25 rfl ?_
    refine P_iload d_Maps_multiplyRaw_26 rfl ?_
    refine P_lald (j := 1) d_Maps_multiplyRaw_28 ((w_n e3 _ nq).trans ((W1.ne hWj1 _ nq).trans hq)) ⟨by decide, by decide⟩ (by decide) ?_
    refine P_lmul d_Maps_multiplyRaw_29 ?_
    refine P_aload_n d_Maps_multiplyRaw_30 rfl ?_
    refine P_iload_n d_Maps_multiplyRaw_31 rfl ?_
    refine P_iconst (v := 1) d_Maps_multiplyRaw_32 (by decide) ?_
    refine P_iaddN (a := 3) (b := 1) d_Maps_multiplyRaw_33 ?_
    show PW _ _ _ _ _ _ (34, [(0, .ref p), (1, .ref q), (2, .ref o), (3, .int 3), (4, .int 1)], [.int 4, .ref p, .long ((fp 3) * (fq 1)), .int 4, .ref o], w3)
    refine P_lald (j := 4) d_Maps_multiplyRaw_34 ((w_n e3 _ np).trans ((W1.ne hWj1 _ np).trans hp)) ⟨by decide, by decide⟩ (by decide) ?_
    refine P_aload_n d_Maps_multiplyRaw_35 rfl ?_
    refine P_iconst (v := 3) d_Maps_multiplyRaw_36 (by decide) ?_
    refine P_iload d_Maps_multiplyRaw_37 rfl ?_
    refine P_iaddN (a := 3) (b := 1) d_Maps_multiplyRaw_39 ?_
    show PW _ _ _ _ _ _ (40, [(0, .ref p), (1, .ref q), (2, .ref o), (3, .int 3), (4, .int 1)], [.int 4, .ref q, .long (fp 4), .long ((fp 3) * (fq 1)), .int 4, .ref o], w3)
    refine P_lald (j := 4) d_Maps_multiplyRaw_40 ((w_n e3 _ nq).trans ((W1.ne hWj1 _ nq).trans hq)) ⟨by decide, by decide⟩ (by decide) ?_
    refine P_lmul d_Maps_multiplyRaw_41 ?_
    refine P_ladd d_Maps_multiplyRaw_42 ?_
    refine P_aload_n d_Maps_multiplyRaw_43 rfl ?_
    refine P_iload_n d_Maps_multiplyRaw_44 rfl ?_
    refine P_iconst (v := 2) d_Maps_multiplyRaw_45 (by decide) ?_
    refine P_iaddN (a := 3) (b := 2) d_Maps_multiplyRaw_46 ?_
    show PW _ _ _ _ _ _ (47, [(0, .ref p), (1, .ref q), (2, .ref o), (3, .int 3), (4, .int 1)], [.int 5, .ref p, .long (((fp 3) * (fq 1)) + ((fp 4) * (fq 4))), .int 4, .ref o], w3)
    refine P_lald (j := 5) d_Maps_multiplyRaw_47 ((w_n e3 _ np).trans ((W1.ne hWj1 _ np).trans hp)) ⟨by decide, by decide⟩ (by decide) ?_
    refine P_aload_n d_Maps_multiplyRaw_48 rfl ?_
    refine P_bipush (v := 6) d_Maps_multiplyRaw_49 (by decide) ?_
    refine P_iload d_Maps_multiplyRaw_51 rfl ?_
    refine P_iaddN (a := 6) (b := 1) d_Maps_multiplyRaw_53 ?_
    show PW _ _ _ _ _ _ (54, [(0, .ref p), (1, .ref q), (2, .ref o), (3, .int 3), (4, .int 1)], [.int 7, .ref q, .long (fp 5), .long (((fp 3) * (fq 1)) + ((fp 4) * (fq 4))), .int 4, .ref o], w3)
    refine P_lald (j := 7) d_Maps_multiplyRaw_54 ((w_n e3 _ nq).trans ((W1.ne hWj1 _ nq).trans hq)) ⟨by decide, by decide⟩ (by decide) ?_
    refine P_lmul d_Maps_multiplyRaw_55 ?_
    refine P_ladd d_Maps_multiplyRaw_56 ?_
    refine P_lastG (j := 4) d_Maps_multiplyRaw_57 s3 hxo ⟨by decide, by decide⟩ (by decide) (fun w5 e5 s5 n5 z5 => ?_)
    generalize vp_updL _ _ _ = g6 at e5 s5
    have hW5 : W1 o 9 w w5 := W1.st hW3 e5
    show PW _ _ _ _ _ _ (58, [(0, .ref p), (1, .ref q), (2, .ref o), (3, .int 3), (4, .int 1)], [], w5)
    refine P_iinc (v := 2) d_Maps_multiplyRaw_58 (by decide) rfl (nI_add 1 1) rfl ?_
    refine P_goto 11 d_Maps_multiplyRaw_61 (by decide) ?_
    refine P_iload d_Maps_multiplyRaw_11 rfl ?_
    refine P_iconst (v := 3) d_Maps_multiplyRaw_13 (by decide) ?_
    refine P_icmp_ge 64 d_Maps_multiplyRaw_14 (by decide) (fun h => absurd h (by decide)) (fun _ => ?_)
    refine P_aload_n d_Maps_multiplyRaw_17 rfl ?_
    refine P_iload_n d_Maps_multiplyRaw_18 rfl ?_
    refine P_iload d_Maps_multiplyRaw_19 rfl ?_
    refine P_iaddN (a := 3) (b := 2) d_Maps_multiplyRaw_21 ?_
    show PW _ _ _ _ _ _ (22, [(0, .ref p), (1, .ref q), (2, .ref o), (3, .int 3), (4, .int 2)], [.int 5, .ref o], w5)
    refine P_aload_n d_Maps_multiplyRaw_22 rfl ?_
    refine P_iload_n d_Maps_multiplyRaw_23 rfl ?_
    refine P_lald (j := 3) d_Maps_multiplyRaw_24 ((w_n e5 _ np).trans ((w_n e3 _ np).trans ((W1.ne hWj1 _ np).trans hp))) ⟨by decide, by decide⟩ (by decide) ?_
    refine P_aload_n d_Maps_multiplyRaw_25 rfl ?_
    refine P_iload d_Maps_multiplyRaw_26 rfl ?_
    refine P_lald (j := 2) d_Maps_multiplyRaw_28 ((w_n e5 _ nq).trans ((w_n e3 _ nq).trans ((W1.ne hWj1 _ nq).trans hq))) ⟨by decide, by decide⟩ (by decide) ?_
    refine P_lmul d_Maps_multiplyRaw_29 ?_
    refine P_aload_n d_Maps_multiplyRaw_30 rfl ?_
    refine P_iload_n d_Maps_multiplyRaw_31 rfl ?_
    refine P_iconst (v := 1) d_Maps_multiplyRaw_32 (by decide) ?_
    refine P_iaddN (a := 3) (b := 1) d_Maps_multiplyRaw_33 ?_
    show PW _ _ _ _ _ _ (34, [(0, .ref p), (1, .ref q), (2, .ref o), (3, .int 3), (4, .int 2)], [.int 4, .ref p, .long ((fp 3) * (fq 2)), .int 5, .ref o], w5)
    refine P_lald (j := 4) d_Maps_multiplyRaw_34 ((w_n e5 _ np).trans ((w_n e3 _ np).trans ((W1.ne hWj1 _ np).trans hp))) ⟨by decide, by decide⟩ (by decide) ?_
    refine P_aload_n d_Maps_multiplyRaw_35 rfl ?_
    refine P_iconst (v := 3) d_Maps_multiplyRaw_36 (by decide) ?_
    refine P_iload d_Maps_multiplyRaw_37 rfl ?_
    refine P_iaddN (a := 3) (b := 2) d_Maps_multiplyRaw_39 ?_
    show PW _ _ _ _ _ _ (40, [(0, .ref p), (1, .ref q), (2, .ref o), (3, .int 3), (4, .int 2)], [.int 5, .ref q, .long (fp 4), .long ((fp 3) * (fq 2)), .int 5, .ref o], w5)
    refine P_lald (j := 5) d_Maps_multiplyRaw_40 ((w_n e5 _ nq).trans ((w_n e3 _ nq).trans ((W1.ne hWj1 _ nq).trans hq))) ⟨by decide, by decide⟩ (by decide) ?_
    refine P_lmul d_Maps_multiplyRaw_41 ?_
    refine P_ladd d_Maps_multiplyRaw_42 ?_
    refine P_aload_n d_Maps_multiplyRaw_43 rfl ?_
    refine P_iload_n d_Maps_multiplyRaw_44 rfl ?_
    refine P_iconst (v := 2) d_Maps_multiplyRaw_45 (by decide) ?_
    refine P_iaddN (a := 3) (b := 2) d_Maps_multiplyRaw_46 ?_
    show PW _ _ _ _ _ _ (47, [(0, .ref p), (1, .ref q), (2, .ref o), (3, .int 3), (4, .int 2)], [.int 5, .ref p, .long (((fp 3) * (fq 2)) + ((fp 4) * (fq 5))), .int 5, .ref o], w5)
    refine P_lald (j := 5) d_Maps_multiplyRaw_47 ((w_n e5 _ np).trans ((w_n e3 _ np).trans ((W1.ne hWj1 _ np).trans hp))) ⟨by decide, by decide⟩ (by decide) ?_
    refine P_aload_n d_Maps_multiplyRaw_48 rfl ?_
    refine P_bipush (v := 6) d_Maps_multiplyRaw_49 (by decide) ?_
    refine P_iload d_Maps_multiplyRaw_51 rfl ?_
    refine P_iaddN (a := 6) (b := 2) d_Maps_multiplyRaw_53 ?_
    show PW _ _ _ _ _ _ (54, [(0, .ref p), (1, .ref q), (2, .ref o), (3, .int 3), (4, .int 2)], [.int 8, .ref q, .long (fp 5), .long (((fp 3) * (fq 2)) + ((fp 4) * (fq 5))), .int 5, .ref o], w5)
    refine P_lald (j := 8) d_Maps_multiplyRaw_54 ((w_n e5 _ nq).trans ((w_n e3 _ nq).trans ((W1.ne hWj1 _ nq).trans hq))) ⟨by decide, by decide⟩ (by decide) ?_
    refine P_lmul d_Maps_multiplyRaw_55 ?_
    refine P_ladd d_Maps_multiplyRaw_56 ?_
    refine P_lastG (j := 5) d_Maps_multiplyRaw_57 s5 hxo ⟨by decide, by decide⟩ (by decide) (fun w7 e7 s7 n7 z7 => ?_)
    generalize vp_updL _ _ _ = g8 at e7 s7
    have hW7 : W1 o 9 w w7 := W1.st hW5 e7
    show PW _ _ _ _ _ _ (58, [(0, .ref p), (1, .ref q), (2, .ref o), (3, .int 3), (4, .int 2)], [], w7)
    refine P_iinc (v := 3) d_Maps_multiplyRaw_58 (by decide) rfl (nI_add 2 1) rfl ?_
    refine P_goto 11 d_Maps_multiplyRaw_61 (by decide) ?_
    refine P_iload d_Maps_multiplyRaw_11 rfl ?_
    refine P_iconst (v := 3) d_Maps_multiplyRaw_13 (by decide) ?_
    refine P_icmp_ge 64 d_Maps_multiplyRaw_14 (by decide) (fun _ => ?_) (fun h => absurd (by decide) h)
    refine P_iinc (v := 6) d_Maps_multiplyRaw_64 (by decide) rfl (nI_add 3 3) rfl ?_
    refine P_goto 2 d_Maps_multiplyRaw_67 (by decide) ?_
    refine P_iload_n d_Maps_multiplyRaw_2 rfl ?_
    refine P_bipush (v := 9) d_Maps_multiplyRaw_3 (by decide) ?_
    refine P_icmp_ge 70 d_Maps_multiplyRaw_5 (by decide) (fun h => absurd h (by decide)) (fun _ => ?_)
    refine P_iconst (v := 0) d_Maps_multiplyRaw_8 (by decide) ?_
    refine P_istore d_Maps_multiplyRaw_9 (by decide) rfl ?_
    refine P_iload d_Maps_multiplyRaw_11 rfl ?_
    refine P_iconst (v := 3) d_Maps_multiplyRaw_13 (by decide) ?_
    refine P_icmp_ge 64 d_Maps_multiplyRaw_14 (by decide) (fun h => absurd h (by decide)) (fun _ => ?_)
    refine P_aload_n d_Maps_multiplyRaw_17 rfl ?_
    refine P_iload_n d_Maps_multiplyRaw_18 rfl ?_
    refine P_iload d_Maps_multiplyRaw_19 rfl ?_
    refine P_iaddN (a := 6) (b := 0) d_Maps_multiplyRaw_21 ?_
    show PW _ _ _ _ _ _ (22, [(0, .ref p), (1, .ref q), (2, .ref o), (3, .int 6), (4, .int 0)], [.int 6, .ref o], w7)
    refine P_aload_n d_Maps_multiplyRaw_22 rfl ?_
    refine P_iload_n d_Maps_multiplyRaw_23 rfl ?_
    refine P_lald (j := 6) d_Maps_multiplyRaw_24 ((w_n e7 _ np).trans ((w_n e5 _ np).trans ((w_n e3 _ np).trans ((W1.ne hWj1 _ np).trans hp)))) ⟨by decide, by decide⟩ (by decide) ?_
    refine P_aload_n d_Maps_multiplyRaw_25 rfl ?_
    refine P_iload d_Maps_multiplyRaw_26 rfl ?_
    refine P_lald (j := 0) d_Maps_multiplyRaw_28 ((w_n e7 _ nq).trans ((w_n e5 _ nq).trans ((w_n e3 _ nq).trans ((W1.ne hWj1 _ nq).trans hq)))) ⟨by decide, by decide⟩ (by decide) ?_
    refine P_lmul d_Maps_multiplyRaw_29 ?_
    refine P_aload_n d_Maps_multiplyRaw_30 rfl ?_
    refine P_iload_n d_Maps_multiplyRaw_31 rfl ?_
    refine P_iconst (v := 1) d_Maps_multiplyRaw_32 (by decide) ?_
    refine P_iaddN (a := 6) (b := 1) d_Maps_multiplyRaw_33 ?_
    show PW _ _ _ _ _ _ (34, [(0, .ref p), (1, .ref q), (2, .ref o), (3, .int 6), (4, .int 0)], [.int 7, .ref p, .long ((fp 6) * (fq 0)), .int 6, .ref o], w7)
    refine P_lald (j := 7) d_Maps_multiplyRaw_34 ((w_n e7 _ np).trans ((w_n e5 _ np).trans ((w_n e3 _ np).trans ((W1.ne hWj1 _ np).trans hp)))) ⟨by decide, by decide⟩ (by decide) ?_
    refine P_aload_n d_Maps_multiplyRaw_35 rfl ?_
    refine P_iconst (v := 3) d_Maps_multiplyRaw_36 (by decide) ?_
    refine P_iload d_Maps_multiplyRaw_37 rfl ?_
    refine P_iaddN (a := 3) (b := 0) d_Maps_multiplyRaw_39 ?_
    show PW _ _ _ _ _ _ (40, [(0, .ref p), (1, .ref q), (2, .ref o), (3, .int 6), (4, .int 0)], [.int 3, .ref q, .long (fp 7), .long ((fp 6) * (fq 0)), .int 6, .ref o], w7)
    refine P_lald (j := 3) d_Maps_multiplyRaw_40 ((w_n e7 _ nq).trans ((w_n e5 _ nq).trans ((w_n e3 _ nq).trans ((W1.ne hWj1 _ nq).trans hq)))) ⟨by decide, by decide⟩ (by decide) ?_
    refine P_lmul d_Maps_multiplyRaw_41 ?_
    refine P_ladd d_Maps_multiplyRaw_42 ?_
    refine P_aload_n d_Maps_multiplyRaw_43 rfl ?_
    refine P_iload_n d_Maps_multiplyRaw_44 rfl ?_
    refine P_iconst (v := 2) d_Maps_multiplyRaw_45 (by decide) ?_
    refine P_iaddN (a := 6) (b := 2) d_Maps_multiplyRaw_46 ?_
    show PW _ _ _ _ _ _ (47, [(0, .ref p), (1, .ref q), (2, .ref o), (3, .int 6), (4, .int 0)], [.int 8, .ref p, .long (((fp 6) * (fq 0)) + ((fp 7) * (fq 3))), .int 6, .ref o], w7)
    refine P_lald (j := 8) d_Maps_multiplyRaw_47 ((w_n e7 _ np).trans ((w_n e5 _ np).trans ((w_n e3 _ np).trans ((W1.ne hWj1 _ np).trans hp)))) ⟨by decide, by decide⟩ (by decide) ?_
    refine P_aload_n d_Maps_multiplyRaw_48 rfl ?_
    refine P_bipush (v := 6) d_Maps_multiplyRaw_49 (by decide) ?_
    refine P_iload d_Maps_multiplyRaw_51 rfl ?_
    refine P_iaddN (a := 6) (b := 0) d_Maps_multiplyRaw_53 ?_
    show PW _ _ _ _ _ _ (54, [(0, .ref p), (1, .ref q), (2, .ref o), (3, .int 6), (4, .int 0)], [.int 6, .ref q, .long (fp 8), .long (((fp 6) * (fq 0)) + ((fp 7) * (fq 3))), .int 6, .ref o], w7)
    refine P_lald (j := 6) d_Maps_multiplyRaw_54 ((w_n e7 _ nq).trans ((w_n e5 _ nq).trans ((w_n e3 _ nq).trans ((W1.ne hWj1 _ nq).trans hq)))) ⟨by decide, by decide⟩ (by decide) ?_
    refine P_lmul d_Maps_multiplyRaw_55 ?_
    refine P_ladd d_Maps_multiplyRaw_56 ?_
    refine P_lastG (j := 6) d_Maps_multiplyRaw_57 s7 hxo ⟨by decide, by decide⟩ (by decide) (fun w9 e9 s9 n9 z9 => ?_)
    generalize vp_updL _ _ _ = g10 at e9 s9
    have hW9 : W1 o 9 w w9 := W1.st hW7 e9
    show PW _ _ _ _ _ _ (58, [(0, .ref p), (1, .ref q), (2, .ref o), (3, .int 6), (4, .int 0)], [], w9)
    refine P_iinc (v := 1) d_Maps_multiplyRaw_58 (by decide) rfl (nI_add 0 1) rfl ?_
    refine P_goto 11 d_Maps_multiplyRaw_61 (by decide) ?_
    refine P_iload d_Maps_multiplyRaw_11 rfl ?_
    refine P_iconst (v := 3) d_Maps_multiplyRaw_13 (by decide) ?_
    refine P_icmp_ge 64 d_Maps_multiplyRaw_14 (by decide) (fun h => absurd h (by decide)) (fun _ => ?_)
    refine P_aload_n d_Maps_multiplyRaw_17 rfl ?_
    refine P_iload_n d_Maps_multiplyRaw_18 rfl ?_
    refine P_iload d_Maps_multiplyRaw_19 rfl ?_
    refine P_iaddN (a := 6) (b := 1) d_Maps_multiplyRaw_21 ?_
    show PW _ _ _ _ _ _ (22, [(0, .ref p), (1, .ref q), (2, .ref o), (3, .int 6), (4, .int 1)], [.int 7, .ref o], w9)
    refine P_aload_n d_Maps_multiplyRaw_22 rfl ?_
    refine P_iload_n d_Maps_multiplyRaw_23 rfl ?_
    refine P_lald (j := 6) d_Maps_multiplyRaw_24 ((w_n e9 _ np).trans ((w_n e7 _ np).trans ((w_n e5 _ np).trans ((w_n e3 _ np).trans ((W1.ne hWj1 _ np).trans hp))))) ⟨by decide, by decide⟩ (by decide) ?_
    refine P_aload_n d_Maps_multiplyRaw_25 rfl ?_
    refine P_iload d_Maps_multiplyRaw_26 rfl ?_
    refine P_lald (j := 1) d_Maps_multiplyRaw_28 ((w_n e9 _ nq).trans ((w_n e7 _ nq).trans ((w_n e5 _ nq).trans ((w_n e3 _ nq).trans ((W1.ne hWj1 _ nq).trans hq))))) ⟨by decide, by decide⟩ (by decide) ?_
    refine P_lmul d_Maps_multiplyRaw_29 ?_
    refine P_aload_n d_Maps_multiplyRaw_30 rfl ?_
    refine P_iload_n d_Maps_multiplyRaw_31 rfl ?_
    refine P_iconst (v := 1) d_Maps_multiplyRaw_32 (by decide) ?_
    refine P_iaddN (a := 6) (b := 1) d_Maps_multiplyRaw_33 ?_
    show PW _ _ _ _ _ _ (34, [(0, .ref p), (1, .ref q), (2, .ref o), (3, .int 6), (4, .int 1)], [.int 7, .ref p, .long ((fp 6) * (fq 1)), .int 7, .ref o], w9)
    refine P_lald (j := 7) d_Maps_multiplyRaw_34 ((w_n e9 _ np).trans ((w_n e7 _ np).trans ((w_n e5 _ np).trans ((w_n e3 _ np).trans ((W1.ne hWj1 _ np).trans hp))))) ⟨by decide, by decide⟩ (by decide) ?_
    refine P_aload_n d_Maps_multiplyRaw_35 rfl ?_
    refine P_iconst (v := 3) d_Maps_multiplyRaw_36 (by decide) ?_
    refine P_iload d_Maps_multiplyRaw_37 rfl ?_
    refine P_iaddN (a := 3) (b := 1) d_Maps_multiplyRaw_39 ?_
    show PW _ _ _ _ _ _ (40, [(0, .ref p), (1, .ref q), (2, .ref o), (3, .int 6), (4, .int 1)], [.int 4, .ref q, .long (fp 7), .long ((fp 6) * (fq 1)), .int 7, .ref o], w9)
    refine P_lald (j := 4) d_Maps_multiplyRaw_40 ((w_n e9 _ nq).trans ((w_n e7 _ nq).trans ((w_n e5 _ nq).trans ((w_n e3 _ nq).trans ((W1.ne hWj1 _ nq).trans hq))))) ⟨by decide, by decide⟩ (by decide) ?_
    refine P_lmul d_Maps_multiplyRaw_41 ?_
    refine P_ladd d_Maps_multiplyRaw_42 ?_
    refine P_aload_n d_Maps_multiplyRaw_43 rfl ?_
    refine P_iload_n d_Maps_multiplyRaw_44 rfl ?_
    refine P_iconst (v := 2) d_Maps_multiplyRaw_45 (by decide) ?_
    refine P_iaddN (a := 6) (b := 2) d_Maps_multiplyRaw_46 ?_
    show PW _ _ _ _ _ _ (47, [(0, .ref p), (1, .ref q), (2, .ref o), (3, .int 6), (4, .int 1)], [.int 8, .ref p, .long (((fp 6) * (fq 1)) + ((fp 7) * (fq 4))), .int 7, .ref o], w9)
    refine P_lald (j := 8) d_Maps_multiplyRaw_47 ((w_n e9 _ np).trans ((w_n e7 _ np).trans ((w_n e5 _ np).trans ((w_n e3 _ np).trans ((W1.ne hWj1 _ np).trans hp))))) ⟨by decide, by decide⟩ (by decide) ?_
    refine P_aload_n d_Maps_multiplyRaw_48 rfl ?_
    refine P_bipush (v := 6) d_Maps_multiplyRaw_49 (by decide) ?_
    refine P_iload d_Maps_multiplyRaw_51 rfl ?_
    refine P_iaddN (a := 6) (b := 1) d_Maps_multiplyRaw_53 ?_
    show PW _ _ _ _ _ _ (54, [(0, .ref p), (1, .ref q), (2, .ref o), (3, .int 6), (4, .int 1)], [.int 7, .ref q, .long (fp 8), .long (((fp 6) * (fq 1)) + ((fp 7) * (fq 4))), .int 7, .ref o], w9)
    refine P_lald (j := 7) d_Maps_multiplyRaw_54 ((w_n e9 _ nq).trans ((w_n e7 _ nq).trans ((w_n e5 _ nq).trans ((w_n e3 _ nq).trans ((W1.ne hWj1 _ nq).trans hq))))) ⟨by decide, by decide⟩ (by decide) ?_
    refine P_lmul d_Maps_multiplyRaw_55 ?_
    refine P_ladd d_Maps_multiplyRaw_56 ?_
    refine P_lastG (j := 7) d_Maps_multiplyRaw_57 s9 hxo ⟨by decide, by decide⟩ (by decide) (fun w11 e11 s11 n11 z11 => ?_)
    generalize vp_updL _ _ _ = g12 at e11 s11
    have hW11 : W1 o 9 w w11 := W1.st hW9 e11
    show PW _ _ _ _ _ _ (58, [(0, .ref p), (1, .ref q), (2, .ref o), (3, .int 6), (4, .int 1)], [], w11)
    refine P_iinc (v := 2) d_Maps_multiplyRaw_58 (by decide) rfl (nI_add 1 1) rfl ?_
    refine P_goto 11 d_Maps_multiplyRaw_61 (by decide) ?_
    refine P_iload d_Maps_multiplyRaw_11 rfl ?_
    refine P_iconst (v := 3) d_Maps_multiplyRaw_13 (by decide) ?_
    refine P_icmp_ge 64 d_Maps_multiplyRaw_14 (by decide) (fun h => absurd h (by decide)) (fun _ => ?_)
    refine P_aload_n d_Maps_multiplyRaw_17 rfl ?_
    refine P_iload_n d_Maps_multiplyRaw_18 rfl ?_
    refine P_iload d_Maps_multiplyRaw_19 rfl ?_
    refine P_iaddN (a := 6) (b := 2) d_Maps_multiplyRaw_21 ?_
    show PW _ _ _ _ _ _ (22, [(0, .ref p), (1, .ref q), (2, .ref o), (3, .int 6), (4, .int 2)], [.int 8, .ref o], w11)
    refine P_aload_n d_Maps_multiplyRaw_22 rfl ?_
    refine P_iload_n d_Maps_multiplyRaw_23 rfl ?_
    refine P_lald (j := 6) d_Maps_multiplyRaw_24 ((w_n e11 _ np).trans ((w_n e9 _ np).trans ((w_n e7 _ np).trans ((w_n e5 _ np).trans ((w_n e3 _ np).trans ((W1.ne hWj1 _ np).trans hp)))))) ⟨by decide, by decide⟩ (by decide) ?_
    refine P_aload_n d_Maps_multiplyRaw_25 rfl ?_
    refine P_iload d_Maps_multiplyRaw_26 rfl ?_
    refine P_lald (j := 2) d_Maps_multiplyRaw_28 ((w_n e11 _ nq).trans ((w_n e9 _ nq).trans ((w_n e7 _ nq).trans ((w_n e5 _ nq).trans ((w_n e3 _ nq).trans ((W1.ne hWj1 _ nq).trans hq)))))) ⟨by decide, by decide⟩ (by decide) ?_
    refine P_lmul d_Maps_multiplyRaw_29 ?_
    refine P_aload_n d_Maps_multiplyRaw_30 rfl ?_
    refine P_iload_n d_Maps_multiplyRaw_31 rfl ?_
    refine P_iconst (v := 1) d_Maps_multiplyRaw_32 (by decide) ?_
    refine P_iaddN (a := 6) (b := 1) d_Maps_multiplyRaw_33 ?_
    show PW _ _ _ _ _ _ (34, [(0, .ref p), (1, .ref q), (2, .ref o), (3, .int 6), (4, .int 2)], [.int 7, .ref p, .long ((fp 6) * (fq 2)), .int 8, .ref o], w11)
    refine P_lald (j := 7) d_Maps_multiplyRaw_34 ((w_n e11 _ np).trans ((w_n e9 _ np).trans ((w_n e7 _ np).trans ((w_n e5 _ np).trans ((w_n e3 _ np).trans ((W1.ne hWj1 _ np).trans hp)))))) ⟨by decide, by decide⟩ (by decide) ?_
    refine P_aload_n d_Maps_multiplyRaw_35 rfl ?_
    refine P_iconst (v := 3) d_Maps_multiplyRaw_36 (by decide) ?_
    refine P_iload d_Maps_multiplyRaw_37 rfl ?_
    refine P_iaddN (a := 3) (b := 2) d_Maps_multiplyRaw_39 ?_
    show PW _ _ _ _ _ _ (40, [(0, .ref p), (1, .ref q), (2, .ref o), (3, .int 6), (4, .int 2)], [.int 5, .ref q, .long (fp 7), .long ((fp 6) * (fq 2)), .int 8, .ref o], w11)
    refine P_lald (j := 5) d_Maps_multiplyRaw_40 ((w_n e11 _ nq).trans ((w_n e9 _ nq).trans ((w_n e7 _ nq).trans ((w_n e5 _ nq).trans ((w_n e3 _ nq).trans ((W1.ne hWj1 _ nq).trans hq)))))) ⟨by decide, by decide⟩ (by decide) ?_
    refine P_lmul d_Maps_multiplyRaw_41 ?_
    refine P_ladd d_Maps_multiplyRaw_42 ?_
    refine P_aload_n d_Maps_multiplyRaw_43 rfl ?_
    refine P_iload_n d_Maps_multiplyRaw_44 rfl ?_
    refine P_iconst (v := 2) d_Maps_multiplyRaw_45 (by decide) ?_
    refine P_iaddN (a := 6) (b := 2) d_Maps_multiplyRaw_46 ?_
    show PW _ _ _ _ _ _ (47, [(0, .ref p), (1, .ref q), (2, .ref o), (3, .int 6), (4, .int 2)], [.int 8, .ref p, .long (((fp 6) * (fq 2)) + ((fp 7) * (fq 5))), .int 8, .ref o], w11)
    refine P_lald (j := 8) d_Maps_multiplyRaw_47 ((w_n e11 _ np).trans ((w_n e9 _ np).trans ((w_n e7 _ np).trans ((w_n e5 _ np).trans ((w_n e3 _ np).trans ((W1.ne hWj1 _ np).trans hp)))))) ⟨by decide, by decide⟩ (by decide) ?_
    refine P_aload_n d_Maps_multiplyRaw_48 rfl ?_
    refine P_bipush (v := 6) d_Maps_multiplyRaw_49 (by decide) ?_
    refine P_iload d_Maps_multiplyRaw_51 rfl ?_
    refine P_iaddN (a := 6) (b := 2) d_Maps_multiplyRaw_53 ?_
    show PW _ _ _ _ _ _ (54, [(0, .ref p), (1, .ref q), (2, .ref o), (3, .int 6), (4, .int 2)], [.int 8, .ref q, .long (fp 8), .long (((fp 6) * (fq 2)) + ((fp 7) * (fq 5))), .int 8, .ref o], w11)
    refine P_lald (j := 8) d_Maps_multiplyRaw_54 ((w_n e11 _ nq).trans ((w_n e9 _ nq).trans ((w_n e7 _ nq).trans ((w_n e5 _ nq).trans ((w_n e3 _ nq).trans ((W1.ne hWj1 _ nq).trans hq)))))) ⟨by decide, by decide⟩ (by decide) ?_
    refine P_lmul d_Maps_multiplyRaw_55 ?_
    refine P_ladd d_Maps_multiplyRaw_56 ?_
    refine P_lastG (j := 8) d_Maps_multiplyRaw_57 s11 hxo ⟨by decide, by decide⟩ (by decide) (fun w13 e13 s13 n13 z13 => ?_)
    generalize vp_updL _ _ _ = g14 at e13 s13
    have hW13 : W1 o 9 w w13 := W1.st hW11 e13
    show PW _ _ _ _ _ _ (58, [(0, .ref p), (1, .ref q), (2, .ref o), (3, .int 6), (4, .int 2)], [], w13)
    refine P_iinc (v := 3) d_Maps_multiplyRaw_58 (by decide) rfl (nI_add 2 1) rfl ?_
    refine P_goto 11 d_Maps_multiplyRaw_61 (by decide) ?_
    refine P_iload d_Maps_multiplyRaw_11 rfl ?_
    refine P_iconst (v := 3) d_Maps_multiplyRaw_13 (by decide) ?_
    refine P_icmp_ge 64 d_Maps_multiplyRaw_14 (by decide) (fun _ => ?_) (fun h => absurd (by decide) h)
    refine P_iinc (v := 9) d_Maps_multiplyRaw_64 (by decide) rfl (nI_add 6 3) rfl ?_
    refine P_goto 2 d_Maps_multiplyRaw_67 (by decide) ?_
    refine P_iload_n d_Maps_multiplyRaw_2 rfl ?_
    refine P_bipush (v := 9) d_Maps_multiplyRaw_3 (by decide) ?_
    refine P_icmp_ge 70 d_Maps_multiplyRaw_5 (by decide) (fun _ => ?_) (fun h => absurd (by decide) h)
    exact P_vret d_Maps_multiplyRaw_70 rfl (le_b rfl) (le_b rfl) ⟨rfl, hW13⟩
  · rintro j1 uj1 hj1 hWj1 kkj1
    obtain ⟨f15, f15e⟩ := W1.at hWj1
    show PW _ _ _ _ _ _ (11, [(0, .ref p), (1, .ref q), (2, .ref o), (3, .int 0), (4, .int (nI j1))], [], uj1)
    refine P_iload d_Maps_multiplyRaw_11 rfl ?_
    refine P_iconst (v := 3) d_Maps_multiplyRaw_13 (by decide) ?_
    refine P_icmp_ge 64 d_Maps_multiplyRaw_14 (by decide) (fun h => absurd h (nI_geF (a := j1) (b := 3) (by omega) (by omega))) (fun _ => ?_)
    refine P_aload_n d_Maps_multiplyRaw_17 rfl ?_
    refine P_iload_n d_Maps_multiplyRaw_18 rfl ?_
    refine P_iload d_Maps_multiplyRaw_19 rfl ?_
    refine P_iaddN (a := 0) (b := j1) d_Maps_multiplyRaw_21 ?_
    show PW _ _ _ _ _ _ (22, [(0, .ref p), (1, .ref q), (2, .ref o), (3, .int 0), (4, .int (nI j1))], [.int (nI (0 + j1)), .ref o], uj1)
    refine P_aload_n d_Maps_multiplyRaw_22 rfl ?_
    refine P_iload_n d_Maps_multiplyRaw_23 rfl ?_
    refine P_lald (j := 0) d_Maps_multiplyRaw_24 ((W1.ne hWj1 _ np).trans hp) ⟨by decide, by decide⟩ (by decide) ?_
    refine P_aload_n d_Maps_multiplyRaw_25 rfl ?_
    refine P_iload d_Maps_multiplyRaw_26 rfl ?_
    refine P_lald (j := j1) d_Maps_multiplyRaw_28 ((W1.ne hWj1 _ nq).trans hq) (ix_nI (by omega)) (by omega) ?_
    refine P_lmul d_Maps_multiplyRaw_29 ?_
    refine P_aload_n d_Maps_multiplyRaw_30 rfl ?_
    refine P_iload_n d_Maps_multiplyRaw_31 rfl ?_
    refine P_iconst (v := 1) d_Maps_multiplyRaw_32 (by decide) ?_
    refine P_iaddN (a := 0) (b := 1) d_Maps_multiplyRaw_33 ?_
    show PW _ _ _ _ _ _ (34, [(0, .ref p), (1, .ref q), (2, .ref o), (3, .int 0), (4, .int (nI j1))], [.int 1, .ref p, .long ((fp 0) * (fq j1)), .int (nI (0 + j1)), .ref o], uj1)
    refine P_lald (j := 1) d_Maps_multiplyRaw_34 ((W1.ne hWj1 _ np).trans hp) ⟨by decide, by decide⟩ (by decide) ?_
    refine P_aload_n d_Maps_multiplyRaw_35 rfl ?_
    refine P_iconst (v := 3) d_Maps_multiplyRaw_36 (by decide) ?_
    refine P_iload d_Maps_multiplyRaw_37 rfl ?_
    refine P_iaddN (a := 3) (b := j1) d_Maps_multiplyRaw_39 ?_
    show PW _ _ _ _ _ _ (40, [(0, .ref p), (1, .ref q), (2, .ref o), (3, .int 0), (4, .int (nI j1))], [.int (nI (3 + j1)), .ref q, .long (fp 1), .long ((fp 0) * (fq j1)), .int (nI (0 + j1)), .ref o], uj1)
    refine P_lald (j := 3 + j1) d_Maps_multiplyRaw_40 ((W1.ne hWj1 _ nq).trans hq) (ix_nI (by omega)) (by omega) ?_
    refine P_lmul d_Maps_multiplyRaw_41 ?_
    refine P_ladd d_Maps_multiplyRaw_42 ?_
    refine P_aload_n d_Maps_multiplyRaw_43 rfl ?_
    refine P_iload_n d_Maps_multiplyRaw_44 rfl ?_
    refine P_iconst (v := 2) d_Maps_multiplyRaw_45 (by decide) ?_
    refine P_iaddN (a := 0) (b := 2) d_Maps_multiplyRaw_46 ?_
    show PW _ _ _ _ _ _ (47, [(0, .ref p), (1, .ref q), (2, .ref o), (3, .int 0), (4, .int (nI j1))], [.int 2, .ref p, .long (((fp 0) * (fq j1)) + ((fp 1) * (fq (3 + j1)))), .int (nI (0 + j1)), .ref o], uj1)
    refine P_lald (j := 2) d_Maps_multiplyRaw_47 ((W1.ne hWj1 _ np).trans hp) ⟨by decide, by decide⟩ (by decide) ?_
    refine P_aload_n d_Maps_multiplyRaw_48 rfl ?_
    refine P_bipush (v := 6) d_Maps_multiplyRaw_49 (by decide) ?_
    refine P_iload d_Maps_multiplyRaw_51 rfl ?_
    refine P_iaddN (a := 6) (b := j1) d_Maps_multiplyRaw_53 ?_
    show PW _ _ _ _ _ _ (54, [(0, .ref p), (1, .ref q), (2, .ref o), (3, .int 0), (4, .int (nI j1))], [.int (nI (6 + j1)), .ref q, .long (fp 2), .long (((fp 0) * (fq j1)) + ((fp 1) * (fq (3 + j1)))), .int (nI (0 + j1)), .ref o], uj1)
    refine P_lald (j := 6 + j1) d_Maps_multiplyRaw_54 ((W1.ne hWj1 _ nq).trans hq) (ix_nI (by omega)) (by omega) ?_
    refine P_lmul d_Maps_multiplyRaw_55 ?_
    refine P_ladd d_Maps_multiplyRaw_56 ?_
    generalize (((fp 0) * (fq j1)) + ((fp 1) * (fq (3 + j1)))) + ((fp 2) * (fq (6 + j1))) = zz16
    show PW _ _ _ _ _ _ (57, [(0, .ref p), (1, .ref q), (2, .ref o), (3, .int 0), (4, .int (nI j1))], [.long zz16, .int (nI (0 + j1)), .ref o], uj1)
    refine P_lastG (j := 0 + j1) d_Maps_multiplyRaw_57 f15e hxo (ix_nI (by omega)) (by omega) (fun w17 e17 s17 n17 z17 => ?_)
    generalize vp_updL _ _ _ = g18 at e17 s17
    have hW17 : W1 o 9 w w17 := W1.st hWj1 e17
    show PW _ _ _ _ _ _ (58, [(0, .ref p), (1, .ref q), (2, .ref o), (3, .int 0), (4, .int (nI j1))], [], w17)
    refine P_iinc (v := nI (j1 + 1)) d_Maps_multiplyRaw_58 (by decide) rfl (nI_add j1 1) rfl ?_
    refine P_goto 11 d_Maps_multiplyRaw_61 (by decide) ?_
    exact kkj1 (w17) (hW17)
theorem s_Maps_multiply {G : pG} {w : pW} {p : Nat} {fp : Nat → Int64} (hp : w.2 p = .inl (1, 9, .inr (.inl fp))) {q : Nat} {fq : Nat → Int64} (hq : w.2 q = .inl (1, 9, .inr (.inl fq))) {o : Nat} {fo : Nat → Int64} (ho : w.2 o = .inl (1, 9, .inr (.inl fo))) (hxo : o < 1000000) (np : p ≠ o) (nq : q ≠ o) : PM G M_Maps_multiply 3 0 0 [.ref p, .ref q, .ref o] w (fun r w' => r = none ∧ W1 o 9 w w') := by
  refine PM_of pn_Maps_multiply (le_b rfl) ?_
  show PW _ _ _ _ _ _ (0, [(0, .ref p), (1, .ref q), (2, .ref o)], [], w)
  have hW0 : W1 o 9 w w := W1.rf ho
  refine P_aload_n d_Maps_multiply_0 rfl ?_
  refine P_aload_n d_Maps_multiply_1 rfl ?_
  refine P_aload_n d_Maps_multiply_2 rfl ?_
  refine P_callS (M := M_Maps_multiply) (pc := 3) (as := [.ref p, .ref q, .ref o]) d_Maps_multiply_3 co_Maps_multiplyRaw L_Maps_31 sm_Maps_multiplyRaw (s_Maps_multiplyRaw hp hq ho hxo np nq) rfl ⟨by decide, by decide⟩ ⟨by decide, by decide⟩ (by exact le_b rfl) ?_ _ rfl
  rintro _ w1 ⟨rfl, g1, e1⟩
  have s1 := w_s e1
  have hW1 : W1 o 9 w w1 := W1.st hW0 e1
  show PW _ _ _ _ _ _ (6, [(0, .ref p), (1, .ref q), (2, .ref o)], [], w1)
  refine P_aload_n d_Maps_multiply_6 rfl ?_
  refine P_callS (M := M_Maps_multiply) (pc := 7) (as := [.ref o]) d_Maps_multiply_7 co_Rows_reduce L_Maps_17 sm_Rows_reduce (v_Rows_reduce s1 (by decide) (by decide) hxo) rfl ⟨by decide, by decide⟩ ⟨by decide, by decide⟩ (by exact le_b rfl) ?_ _ rfl
  rintro _ w2 ⟨rfl, e2⟩
  have s2 := w_s e2
  generalize rdC _ _ = g3 at e2 s2
  have hW2 : W1 o 9 w w2 := W1.st hW1 e2
  show PW _ _ _ _ _ _ (10, [(0, .ref p), (1, .ref q), (2, .ref o)], [], w2)
  exact P_vret d_Maps_multiply_10 rfl (le_b rfl) (le_b rfl) ⟨rfl, hW2⟩
theorem s_Maps_invert {G : pG} {w : pW} {p : Nat} {fp : Nat → Int64} (hp : w.2 p = .inl (1, 9, .inr (.inl fp))) {o : Nat} {fo : Nat → Int64} (ho : w.2 o = .inl (1, 9, .inr (.inl fo))) (hxo : o < 1000000) (np : p ≠ o) : PM G M_Maps_invert 3 0 0 [.ref p, .ref o] w (fun r w' => r = none ∧ W1 o 9 w w') := by
  refine PM_of pn_Maps_invert (le_b rfl) ?_
  show PW _ _ _ _ _ _ (0, [(0, .ref p), (1, .ref o)], [], w)
  have hW0 : W1 o 9 w w := W1.rf ho
  refine P_aload_n d_Maps_invert_0 rfl ?_
  refine P_iconst (v := 0) d_Maps_invert_1 (by decide) ?_
  refine P_aload_n d_Maps_invert_2 rfl ?_
  refine P_iconst (v := 4) d_Maps_invert_3 (by decide) ?_
  refine P_lald (j := 4) d_Maps_invert_4 hp ⟨by decide, by decide⟩ (by decide) ?_
  refine P_aload_n d_Maps_invert_5 rfl ?_
  refine P_bipush (v := 8) d_Maps_invert_6 (by decide) ?_
  refine P_lald (j := 8) d_Maps_invert_8 hp ⟨by decide, by decide⟩ (by decide) ?_
  refine P_lmul d_Maps_invert_9 ?_
  refine P_aload_n d_Maps_invert_10 rfl ?_
  refine P_iconst (v := 5) d_Maps_invert_11 (by decide) ?_
  refine P_lald (j := 5) d_Maps_invert_12 hp ⟨by decide, by decide⟩ (by decide) ?_
  refine P_aload_n d_Maps_invert_13 rfl ?_
  refine P_bipush (v := 7) d_Maps_invert_14 (by decide) ?_
  refine P_lald (j := 7) d_Maps_invert_16 hp ⟨by decide, by decide⟩ (by decide) ?_
  refine P_lmul d_Maps_invert_17 ?_
  refine P_lsub d_Maps_invert_18 ?_
  refine P_lastG (j := 0) d_Maps_invert_19 ho hxo ⟨by decide, by decide⟩ (by decide) (fun w1 e1 s1 n1 z1 => ?_)
  generalize vp_updL _ _ _ = g2 at e1 s1
  have hW1 : W1 o 9 w w1 := W1.st hW0 e1
  show PW _ _ _ _ _ _ (20, [(0, .ref p), (1, .ref o)], [], w1)
  refine P_aload_n d_Maps_invert_20 rfl ?_
  refine P_iconst (v := 1) d_Maps_invert_21 (by decide) ?_
  refine P_aload_n d_Maps_invert_22 rfl ?_
  refine P_iconst (v := 2) d_Maps_invert_23 (by decide) ?_
  refine P_lald (j := 2) d_Maps_invert_24 ((w_n e1 _ np).trans hp) ⟨by decide, by decide⟩ (by decide) ?_
  refine P_aload_n d_Maps_invert_25 rfl ?_
  refine P_bipush (v := 7) d_Maps_invert_26 (by decide) ?_
  refine P_lald (j := 7) d_Maps_invert_28 ((w_n e1 _ np).trans hp) ⟨by decide, by decide⟩ (by decide) ?_
  refine P_lmul d_Maps_invert_29 ?_
  refine P_aload_n d_Maps_invert_30 rfl ?_
  refine P_iconst (v := 1) d_Maps_invert_31 (by decide) ?_
  refine P_lald (j := 1) d_Maps_invert_32 ((w_n e1 _ np).trans hp) ⟨by decide, by decide⟩ (by decide) ?_
  refine P_aload_n d_Maps_invert_33 rfl ?_
  refine P_bipush (v := 8) d_Maps_invert_34 (by decide) ?_
  refine P_lald (j := 8) d_Maps_invert_36 ((w_n e1 _ np).trans hp) ⟨by decide, by decide⟩ (by decide) ?_
  refine P_lmul d_Maps_invert_37 ?_
  refine P_lsub d_Maps_invert_38 ?_
  refine P_lastG (j := 1) d_Maps_invert_39 s1 hxo ⟨by decide, by decide⟩ (by decide) (fun w3 e3 s3 n3 z3 => ?_)
  generalize vp_updL _ _ _ = g4 at e3 s3
  have hW3 : W1 o 9 w w3 := W1.st hW1 e3
  show PW _ _ _ _ _ _ (40, [(0, .ref p), (1, .ref o)], [], w3)
  refine P_aload_n d_Maps_invert_40 rfl ?_
  refine P_iconst (v := 2) d_Maps_invert_41 (by decide) ?_
  refine P_aload_n d_Maps_invert_42 rfl ?_
  refine P_iconst (v := 1) d_Maps_invert_43 (by decide) ?_
  refine P_lald (j := 1) d_Maps_invert_44 ((w_n e3 _ np).trans ((w_n e1 _ np).trans hp)) ⟨by decide, by decide⟩ (by decide) ?_
  refine P_aload_n d_Maps_invert_45 rfl ?_
  refine P_iconst (v := 5) d_Maps_invert_46 (by decide) ?_
  refine P_lald (j := 5) d_Maps_invert_47 ((w_n e3 _ np).trans ((w_n e1 _ np).trans hp)) ⟨by decide, by decide⟩ (by decide) ?_
  refine P_lmul d_Maps_invert_48 ?_
  refine P_aload_n d_Maps_invert_49 rfl ?_
  refine P_iconst (v := 2) d_Maps_invert_50 (by decide) ?_
  refine P_lald (j := 2) d_Maps_invert_51 ((w_n e3 _ np).trans ((w_n e1 _ np).trans hp)) ⟨by decide, by decide⟩ (by decide) ?_
  refine P_aload_n d_Maps_invert_52 rfl ?_
  refine P_iconst (v := 4) d_Maps_invert_53 (by decide) ?_
  refine P_lald (j := 4) d_Maps_invert_54 ((w_n e3 _ np).trans ((w_n e1 _ np).trans hp)) ⟨by decide, by decide⟩ (by decide) ?_
  refine P_lmul d_Maps_invert_55 ?_
  refine P_lsub d_Maps_invert_56 ?_
  refine P_lastG (j := 2) d_Maps_invert_57 s3 hxo ⟨by decide, by decide⟩ (by decide) (fun w5 e5 s5 n5 z5 => ?_)
  generalize vp_updL _ _ _ = g6 at e5 s5
  have hW5 : W1 o 9 w w5 := W1.st hW3 e5
  show PW _ _ _ _ _ _ (58, [(0, .ref p), (1, .ref o)], [], w5)
  refine P_aload_n d_Maps_invert_58 rfl ?_
  refine P_iconst (v := 3) d_Maps_invert_59 (by decide) ?_
  refine P_aload_n d_Maps_invert_60 rfl ?_
  refine P_iconst (v := 5) d_Maps_invert_61 (by decide) ?_
  refine P_lald (j := 5) d_Maps_invert_62 ((w_n e5 _ np).trans ((w_n e3 _ np).trans ((w_n e1 _ np).trans hp))) ⟨by decide, by decide⟩ (by decide) ?_
  refine P_aload_n d_Maps_invert_63 rfl ?_
  refine P_bipush (v := 6) d_Maps_invert_64 (by decide) ?_
  refine P_lald (j := 6) d_Maps_invert_66 ((w_n e5 _ np).trans ((w_n e3 _ np).trans ((w_n e1 _ np).trans hp))) ⟨by decide, by decide⟩ (by decide) ?_
  refine P_lmul d_Maps_invert_67 ?_
  refine P_aload_n d_Maps_invert_68 rfl ?_
  refine P_iconst (v := 3) d_Maps_invert_69 (by decide) ?_
  refine P_lald (j := 3) d_Maps_invert_70 ((w_n e5 _ np).trans ((w_n e3 _ np).trans ((w_n e1 _ np).trans hp))) ⟨by decide, by decide⟩ (by decide) ?_
  refine P_aload_n d_Maps_invert_71 rfl ?_
  refine P_bipush (v := 8) d_Maps_invert_72 (by decide) ?_
  refine P_lald (j := 8) d_Maps_invert_74 ((w_n e5 _ np).trans ((w_n e3 _ np).trans ((w_n e1 _ np).trans hp))) ⟨by decide, by decide⟩ (by decide) ?_
  refine P_lmul d_Maps_invert_75 ?_
  refine P_lsub d_Maps_invert_76 ?_
  refine P_lastG (j := 3) d_Maps_invert_77 s5 hxo ⟨by decide, by decide⟩ (by decide) (fun w7 e7 s7 n7 z7 => ?_)
  generalize vp_updL _ _ _ = g8 at e7 s7
  have hW7 : W1 o 9 w w7 := W1.st hW5 e7
  show PW _ _ _ _ _ _ (78, [(0, .ref p), (1, .ref o)], [], w7)
  refine P_aload_n d_Maps_invert_78 rfl ?_
  refine P_iconst (v := 4) d_Maps_invert_79 (by decide) ?_
  refine P_aload_n d_Maps_invert_80 rfl ?_
  refine P_iconst (v := 0) d_Maps_invert_81 (by decide) ?_
  refine P_lald (j := 0) d_Maps_invert_82 ((w_n e7 _ np).trans ((w_n e5 _ np).trans ((w_n e3 _ np).trans ((w_n e1 _ np).trans hp)))) ⟨by decide, by decide⟩ (by decide) ?_
  refine P_aload_n d_Maps_invert_83 rfl ?_
  refine P_bipush (v := 8) d_Maps_invert_84 (by decide) ?_
  refine P_lald (j := 8) d_Maps_invert_86 ((w_n e7 _ np).trans ((w_n e5 _ np).trans ((w_n e3 _ np).trans ((w_n e1 _ np).trans hp)))) ⟨by decide, by decide⟩ (by decide) ?_
  refine P_lmul d_Maps_invert_87 ?_
  refine P_aload_n d_Maps_invert_88 rfl ?_
  refine P_iconst (v := 2) d_Maps_invert_89 (by decide) ?_
  refine P_lald (j := 2) d_Maps_invert_90 ((w_n e7 _ np).trans ((w_n e5 _ np).trans ((w_n e3 _ np).trans ((w_n e1 _ np).trans hp)))) ⟨by decide, by decide⟩ (by decide) ?_
  refine P_aload_n d_Maps_invert_91 rfl ?_
  refine P_bipush (v := 6) d_Maps_invert_92 (by decide) ?_
  refine P_lald (j := 6) d_Maps_invert_94 ((w_n e7 _ np).trans ((w_n e5 _ np).trans ((w_n e3 _ np).trans ((w_n e1 _ np).trans hp)))) ⟨by decide, by decide⟩ (by decide) ?_
  refine P_lmul d_Maps_invert_95 ?_
  refine P_lsub d_Maps_invert_96 ?_
  refine P_lastG (j := 4) d_Maps_invert_97 s7 hxo ⟨by decide, by decide⟩ (by decide) (fun w9 e9 s9 n9 z9 => ?_)
  generalize vp_updL _ _ _ = g10 at e9 s9
  have hW9 : W1 o 9 w w9 := W1.st hW7 e9
  show PW _ _ _ _ _ _ (98, [(0, .ref p), (1, .ref o)], [], w9)
  refine P_aload_n d_Maps_invert_98 rfl ?_
  refine P_iconst (v := 5) d_Maps_invert_99 (by decide) ?_
  refine P_aload_n d_Maps_invert_100 rfl ?_
  refine P_iconst (v := 2) d_Maps_invert_101 (by decide) ?_
  refine P_lald (j := 2) d_Maps_invert_102 ((w_n e9 _ np).trans ((w_n e7 _ np).trans ((w_n e5 _ np).trans ((w_n e3 _ np).trans ((w_n e1 _ np).trans hp))))) ⟨by decide, by decide⟩ (by decide) ?_
  refine P_aload_n d_Maps_invert_103 rfl ?_
  refine P_iconst (v := 3) d_Maps_invert_104 (by decide) ?_
  refine P_lald (j := 3) d_Maps_invert_105 ((w_n e9 _ np).trans ((w_n e7 _ np).trans ((w_n e5 _ np).trans ((w_n e3 _ np).trans ((w_n e1 _ np).trans hp))))) ⟨by decide, by decide⟩ (by decide) ?_
  refine P_lmul d_Maps_invert_106 ?_
  refine P_aload_n d_Maps_invert_107 rfl ?_
  refine P_iconst (v := 0) d_Maps_invert_108 (by decide) ?_
  refine P_lald (j := 0) d_Maps_invert_109 ((w_n e9 _ np).trans ((w_n e7 _ np).trans ((w_n e5 _ np).trans ((w_n e3 _ np).trans ((w_n e1 _ np).trans hp))))) ⟨by decide, by decide⟩ (by decide) ?_
  refine P_aload_n d_Maps_invert_110 rfl ?_
  refine P_iconst (v := 5) d_Maps_invert_111 (by decide) ?_
  refine P_lald (j := 5) d_Maps_invert_112 ((w_n e9 _ np).trans ((w_n e7 _ np).trans ((w_n e5 _ np).trans ((w_n e3 _ np).trans ((w_n e1 _ np).trans hp))))) ⟨by decide, by decide⟩ (by decide) ?_
  refine P_lmul d_Maps_invert_113 ?_
  refine P_lsub d_Maps_invert_114 ?_
  refine P_lastG (j := 5) d_Maps_invert_115 s9 hxo ⟨by decide, by decide⟩ (by decide) (fun w11 e11 s11 n11 z11 => ?_)
  generalize vp_updL _ _ _ = g12 at e11 s11
  have hW11 : W1 o 9 w w11 := W1.st hW9 e11
  show PW _ _ _ _ _ _ (116, [(0, .ref p), (1, .ref o)], [], w11)
  refine P_aload_n d_Maps_invert_116 rfl ?_
  refine P_bipush (v := 6) d_Maps_invert_117 (by decide) ?_
  refine P_aload_n d_Maps_invert_119 rfl ?_
  refine P_iconst (v := 3) d_Maps_invert_120 (by decide) ?_
  refine P_lald (j := 3) d_Maps_invert_121 ((w_n e11 _ np).trans ((w_n e9 _ np).trans ((w_n e7 _ np).trans ((w_n e5 _ np).trans ((w_n e3 _ np).trans ((w_n e1 _ np).trans hp)))))) ⟨by decide, by decide⟩ (by decide) ?_
  refine P_aload_n d_Maps_invert_122 rfl ?_
  refine P_bipush (v := 7) d_Maps_invert_123 (by decide) ?_
  refine P_lald (j := 7) d_Maps_invert_125 ((w_n e11 _ np).trans ((w_n e9 _ np).trans ((w_n e7 _ np).trans ((w_n e5 _ np).trans ((w_n e3 _ np).trans ((w_n e1 _ np).trans hp)))))) ⟨by decide, by decide⟩ (by decide) ?_
  refine P_lmul d_Maps_invert_126 ?_
  refine P_aload_n d_Maps_invert_127 rfl ?_
  refine P_iconst (v := 4) d_Maps_invert_128 (by decide) ?_
  refine P_lald (j := 4) d_Maps_invert_129 ((w_n e11 _ np).trans ((w_n e9 _ np).trans ((w_n e7 _ np).trans ((w_n e5 _ np).trans ((w_n e3 _ np).trans ((w_n e1 _ np).trans hp)))))) ⟨by decide, by decide⟩ (by decide) ?_
  refine P_aload_n d_Maps_invert_130 rfl ?_
  refine P_bipush (v := 6) d_Maps_invert_131 (by decide) ?_
  refine P_lald (j := 6) d_Maps_invert_133 ((w_n e11 _ np).trans ((w_n e9 _ np).trans ((w_n e7 _ np).trans ((w_n e5 _ np).trans ((w_n e3 _ np).trans ((w_n e1 _ np).trans hp)))))) ⟨by decide, by decide⟩ (by decide) ?_
  refine P_lmul d_Maps_invert_134 ?_
  refine P_lsub d_Maps_invert_135 ?_
  refine P_lastG (j := 6) d_Maps_invert_136 s11 hxo ⟨by decide, by decide⟩ (by decide) (fun w13 e13 s13 n13 z13 => ?_)
  generalize vp_updL _ _ _ = g14 at e13 s13
  have hW13 : W1 o 9 w w13 := W1.st hW11 e13
  show PW _ _ _ _ _ _ (137, [(0, .ref p), (1, .ref o)], [], w13)
  refine P_aload_n d_Maps_invert_137 rfl ?_
  refine P_bipush (v := 7) d_Maps_invert_138 (by decide) ?_
  refine P_aload_n d_Maps_invert_140 rfl ?_
  refine P_iconst (v := 1) d_Maps_invert_141 (by decide) ?_
  refine P_lald (j := 1) d_Maps_invert_142 ((w_n e13 _ np).trans ((w_n e11 _ np).trans ((w_n e9 _ np).trans ((w_n e7 _ np).trans ((w_n e5 _ np).trans ((w_n e3 _ np).trans ((w_n e1 _ np).trans hp))))))) ⟨by decide, by decide⟩ (by decide) ?_
  refine P_aload_n d_Maps_invert_143 rfl ?_
  refine P_bipush (v := 6) d_Maps_invert_144 (by decide) ?_
  refine P_lald (j := 6) d_Maps_invert_146 ((w_n e13 _ np).trans ((w_n e11 _ np).trans ((w_n e9 _ np).trans ((w_n e7 _ np).trans ((w_n e5 _ np).trans ((w_n e3 _ np).trans ((w_n e1 _ np).trans hp))))))) ⟨by decide, by decide⟩ (by decide) ?_
  refine P_lmul d_Maps_invert_147 ?_
  refine P_aload_n d_Maps_invert_148 rfl ?_
  refine P_iconst (v := 0) d_Maps_invert_149 (by decide) ?_
  refine P_lald (j := 0) d_Maps_invert_150 ((w_n e13 _ np).trans ((w_n e11 _ np).trans ((w_n e9 _ np).trans ((w_n e7 _ np).trans ((w_n e5 _ np).trans ((w_n e3 _ np).trans ((w_n e1 _ np).trans hp))))))) ⟨by decide, by decide⟩ (by decide) ?_
  refine P_aload_n d_Maps_invert_151 rfl ?_
  refine P_bipush (v := 7) d_Maps_invert_152 (by decide) ?_
  refine P_lald (j := 7) d_Maps_invert_154 ((w_n e13 _ np).trans ((w_n e11 _ np).trans ((w_n e9 _ np).trans ((w_n e7 _ np).trans ((w_n e5 _ np).trans ((w_n e3 _ np).trans ((w_n e1 _ np).trans hp))))))) ⟨by decide, by decide⟩ (by decide) ?_
  refine P_lmul d_Maps_invert_155 ?_
  refine P_lsub d_Maps_invert_156 ?_
  refine P_lastG (j := 7) d_Maps_invert_157 s13 hxo ⟨by decide, by decide⟩ (by decide) (fun w15 e15 s15 n15 z15 => ?_)
  generalize vp_updL _ _ _ = g16 at e15 s15
  have hW15 : W1 o 9 w w15 := W1.st hW13 e15
  show PW _ _ _ _ _ _ (158, [(0, .ref p), (1, .ref o)], [], w15)
  refine P_aload_n d_Maps_invert_158 rfl ?_
  refine P_bipush (v := 8) d_Maps_invert_159 (by decide) ?_
  refine P_aload_n d_Maps_invert_161 rfl ?_
  refine P_iconst (v := 0) d_Maps_invert_162 (by decide) ?_
  refine P_lald (j := 0) d_Maps_invert_163 ((w_n e15 _ np).trans ((w_n e13 _ np).trans ((w_n e11 _ np).trans ((w_n e9 _ np).trans ((w_n e7 _ np).trans ((w_n e5 _ np).trans ((w_n e3 _ np).trans ((w_n e1 _ np).trans hp)))))))) ⟨by decide, by decide⟩ (by decide) ?_
  refine P_aload_n d_Maps_invert_164 rfl ?_
  refine P_iconst (v := 4) d_Maps_invert_165 (by decide) ?_
  refine P_lald (j := 4) d_Maps_invert_166 ((w_n e15 _ np).trans ((w_n e13 _ np).trans ((w_n e11 _ np).trans ((w_n e9 _ np).trans ((w_n e7 _ np).trans ((w_n e5 _ np).trans ((w_n e3 _ np).trans ((w_n e1 _ np).trans hp)))))))) ⟨by decide, by decide⟩ (by decide) ?_
  refine P_lmul d_Maps_invert_167 ?_
  refine P_aload_n d_Maps_invert_168 rfl ?_
  refine P_iconst (v := 1) d_Maps_invert_169 (by decide) ?_
  refine P_lald (j := 1) d_Maps_invert_170 ((w_n e15 _ np).trans ((w_n e13 _ np).trans ((w_n e11 _ np).trans ((w_n e9 _ np).trans ((w_n e7 _ np).trans ((w_n e5 _ np).trans ((w_n e3 _ np).trans ((w_n e1 _ np).trans hp)))))))) ⟨by decide, by decide⟩ (by decide) ?_
  refine P_aload_n d_Maps_invert_171 rfl ?_
  refine P_iconst (v := 3) d_Maps_invert_172 (by decide) ?_
  refine P_lald (j := 3) d_Maps_invert_173 ((w_n e15 _ np).trans ((w_n e13 _ np).trans ((w_n e11 _ np).trans ((w_n e9 _ np).trans ((w_n e7 _ np).trans ((w_n e5 _ np).trans ((w_n e3 _ np).trans ((w_n e1 _ np).trans hp)))))))) ⟨by decide, by decide⟩ (by decide) ?_
  refine P_lmul d_Maps_invert_174 ?_
  refine P_lsub d_Maps_invert_175 ?_
  refine P_lastG (j := 8) d_Maps_invert_176 s15 hxo ⟨by decide, by decide⟩ (by decide) (fun w17 e17 s17 n17 z17 => ?_)
  generalize vp_updL _ _ _ = g18 at e17 s17
  have hW17 : W1 o 9 w w17 := W1.st hW15 e17
  show PW _ _ _ _ _ _ (177, [(0, .ref p), (1, .ref o)], [], w17)
  refine P_aload_n d_Maps_invert_177 rfl ?_
  refine P_callS (M := M_Maps_invert) (pc := 178) (as := [.ref o]) d_Maps_invert_178 co_Rows_reduce L_Maps_17 sm_Rows_reduce (v_Rows_reduce s17 (by decide) (by decide) hxo) rfl ⟨by decide, by decide⟩ ⟨by decide, by decide⟩ (by exact le_b rfl) ?_ _ rfl
  rintro _ w19 ⟨rfl, e19⟩
  have s19 := w_s e19
  generalize rdC _ _ = g20 at e19 s19
  have hW19 : W1 o 9 w w19 := W1.st hW17 e19
  show PW _ _ _ _ _ _ (181, [(0, .ref p), (1, .ref o)], [], w19)
  exact P_vret d_Maps_invert_181 rfl (le_b rfl) (le_b rfl) ⟨rfl, hW19⟩
theorem s_Maps_determinant {G : pG} {w : pW} {p : Nat} {fp : Nat → Int64} (hp : w.2 p = .inl (1, 9, .inr (.inl fp))) : PM G M_Maps_determinant 0 0 0 [.ref p] w (fun r w' => (∃ v, r = some (.long v)) ∧ w' = w) := by
  refine PM_of pn_Maps_determinant (le_b rfl) ?_
  show PW _ _ _ _ _ _ (0, [(0, .ref p)], [], w)
  refine P_aload_n d_Maps_determinant_0 rfl ?_
  refine P_iconst (v := 0) d_Maps_determinant_1 (by decide) ?_
  refine P_lald (j := 0) d_Maps_determinant_2 hp ⟨by decide, by decide⟩ (by decide) ?_
  refine P_aload_n d_Maps_determinant_3 rfl ?_
  refine P_iconst (v := 4) d_Maps_determinant_4 (by decide) ?_
  refine P_lald (j := 4) d_Maps_determinant_5 hp ⟨by decide, by decide⟩ (by decide) ?_
  refine P_aload_n d_Maps_determinant_6 rfl ?_
  refine P_bipush (v := 8) d_Maps_determinant_7 (by decide) ?_
  refine P_lald (j := 8) d_Maps_determinant_9 hp ⟨by decide, by decide⟩ (by decide) ?_
  refine P_lmul d_Maps_determinant_10 ?_
  refine P_aload_n d_Maps_determinant_11 rfl ?_
  refine P_iconst (v := 5) d_Maps_determinant_12 (by decide) ?_
  refine P_lald (j := 5) d_Maps_determinant_13 hp ⟨by decide, by decide⟩ (by decide) ?_
  refine P_aload_n d_Maps_determinant_14 rfl ?_
  refine P_bipush (v := 7) d_Maps_determinant_15 (by decide) ?_
  refine P_lald (j := 7) d_Maps_determinant_17 hp ⟨by decide, by decide⟩ (by decide) ?_
  refine P_lmul d_Maps_determinant_18 ?_
  refine P_lsub d_Maps_determinant_19 ?_
  refine P_lmul d_Maps_determinant_20 ?_
  refine P_aload_n d_Maps_determinant_21 rfl ?_
  refine P_iconst (v := 1) d_Maps_determinant_22 (by decide) ?_
  refine P_lald (j := 1) d_Maps_determinant_23 hp ⟨by decide, by decide⟩ (by decide) ?_
  refine P_aload_n d_Maps_determinant_24 rfl ?_
  refine P_iconst (v := 5) d_Maps_determinant_25 (by decide) ?_
  refine P_lald (j := 5) d_Maps_determinant_26 hp ⟨by decide, by decide⟩ (by decide) ?_
  refine P_aload_n d_Maps_determinant_27 rfl ?_
  refine P_bipush (v := 6) d_Maps_determinant_28 (by decide) ?_
  refine P_lald (j := 6) d_Maps_determinant_30 hp ⟨by decide, by decide⟩ (by decide) ?_
  refine P_lmul d_Maps_determinant_31 ?_
  refine P_aload_n d_Maps_determinant_32 rfl ?_
  refine P_iconst (v := 3) d_Maps_determinant_33 (by decide) ?_
  refine P_lald (j := 3) d_Maps_determinant_34 hp ⟨by decide, by decide⟩ (by decide) ?_
  refine P_aload_n d_Maps_determinant_35 rfl ?_
  refine P_bipush (v := 8) d_Maps_determinant_36 (by decide) ?_
  refine P_lald (j := 8) d_Maps_determinant_38 hp ⟨by decide, by decide⟩ (by decide) ?_
  refine P_lmul d_Maps_determinant_39 ?_
  refine P_lsub d_Maps_determinant_40 ?_
  refine P_lmul d_Maps_determinant_41 ?_
  refine P_ladd d_Maps_determinant_42 ?_
  generalize ((fp 0) * (((fp 4) * (fp 8)) - ((fp 5) * (fp 7)))) + ((fp 1) * (((fp 5) * (fp 6)) - ((fp 3) * (fp 8)))) = zz1
  show PW _ _ _ _ _ _ (43, [(0, .ref p)], [.long zz1], w)
  refine P_aload_n d_Maps_determinant_43 rfl ?_
  refine P_iconst (v := 2) d_Maps_determinant_44 (by decide) ?_
  refine P_lald (j := 2) d_Maps_determinant_45 hp ⟨by decide, by decide⟩ (by decide) ?_
  refine P_aload_n d_Maps_determinant_46 rfl ?_
  refine P_iconst (v := 3) d_Maps_determinant_47 (by decide) ?_
  refine P_lald (j := 3) d_Maps_determinant_48 hp ⟨by decide, by decide⟩ (by decide) ?_
  refine P_aload_n d_Maps_determinant_49 rfl ?_
  refine P_bipush (v := 7) d_Maps_determinant_50 (by decide) ?_
  refine P_lald (j := 7) d_Maps_determinant_52 hp ⟨by decide, by decide⟩ (by decide) ?_
  refine P_lmul d_Maps_determinant_53 ?_
  refine P_aload_n d_Maps_determinant_54 rfl ?_
  refine P_iconst (v := 4) d_Maps_determinant_55 (by decide) ?_
  refine P_lald (j := 4) d_Maps_determinant_56 hp ⟨by decide, by decide⟩ (by decide) ?_
  refine P_aload_n d_Maps_determinant_57 rfl ?_
  refine P_bipush (v := 6) d_Maps_determinant_58 (by decide) ?_
  refine P_lald (j := 6) d_Maps_determinant_60 hp ⟨by decide, by decide⟩ (by decide) ?_
  refine P_lmul d_Maps_determinant_61 ?_
  refine P_lsub d_Maps_determinant_62 ?_
  refine P_lmul d_Maps_determinant_63 ?_
  refine P_ladd d_Maps_determinant_64 ?_
  exact P_lret d_Maps_determinant_65 rfl (le_b rfl) (le_b rfl) ⟨⟨_, rfl⟩, rfl⟩
theorem s_Maps_kindOf {G : pG} {w : pW} {p : Nat} {fp : Nat → Int64} (hp : w.2 p = .inl (1, 9, .inr (.inl fp))) : PM G M_Maps_kindOf 0 0 0 [.ref p] w (fun r w' => (∃ v, r = some (.int v)) ∧ w' = w) := by
  refine PM_of pn_Maps_kindOf (le_b rfl) ?_
  show PW _ _ _ _ _ _ (0, [(0, .ref p)], [], w)
  refine P_aload_n d_Maps_kindOf_0 rfl ?_
  refine P_bipush (v := 6) d_Maps_kindOf_1 (by decide) ?_
  refine P_lald (j := 6) d_Maps_kindOf_3 hp ⟨by decide, by decide⟩ (by decide) ?_
  refine P_lconst (v := 0) d_Maps_kindOf_4 (by decide) ?_
  refine P_lcmp d_Maps_kindOf_5 ?_
  refine P_if_ne 18 d_Maps_kindOf_6 (by decide) (fun c1 => ?_) (fun c1 => ?_)
  · refine P_iconst (v := 5) d_Maps_kindOf_18 (by decide) ?_
    exact P_iret d_Maps_kindOf_19 rfl (le_b rfl) (le_b rfl) ⟨⟨_, rfl⟩, rfl⟩
  · refine P_aload_n d_Maps_kindOf_9 rfl ?_
    refine P_bipush (v := 7) d_Maps_kindOf_10 (by decide) ?_
    refine P_lald (j := 7) d_Maps_kindOf_12 hp ⟨by decide, by decide⟩ (by decide) ?_
    refine P_lconst (v := 0) d_Maps_kindOf_13 (by decide) ?_
    refine P_lcmp d_Maps_kindOf_14 ?_
    refine P_if_eq 20 d_Maps_kindOf_15 (by decide) (fun c2 => ?_) (fun c2 => ?_)
    · refine P_aload_n d_Maps_kindOf_20 rfl ?_
      refine P_iconst (v := 0) d_Maps_kindOf_21 (by decide) ?_
      refine P_lald (j := 0) d_Maps_kindOf_22 hp ⟨by decide, by decide⟩ (by decide) ?_
      refine P_aload_n d_Maps_kindOf_23 rfl ?_
      refine P_iconst (v := 0) d_Maps_kindOf_24 (by decide) ?_
      refine P_lald (j := 0) d_Maps_kindOf_25 hp ⟨by decide, by decide⟩ (by decide) ?_
      refine P_lmul d_Maps_kindOf_26 ?_
      refine P_aload_n d_Maps_kindOf_27 rfl ?_
      refine P_iconst (v := 3) d_Maps_kindOf_28 (by decide) ?_
      refine P_lald (j := 3) d_Maps_kindOf_29 hp ⟨by decide, by decide⟩ (by decide) ?_
      refine P_aload_n d_Maps_kindOf_30 rfl ?_
      refine P_iconst (v := 3) d_Maps_kindOf_31 (by decide) ?_
      refine P_lald (j := 3) d_Maps_kindOf_32 hp ⟨by decide, by decide⟩ (by decide) ?_
      refine P_lmul d_Maps_kindOf_33 ?_
      refine P_ladd d_Maps_kindOf_34 ?_
      refine P_lstore_n d_Maps_kindOf_35 (by decide) rfl ?_
      refine P_aload_n d_Maps_kindOf_36 rfl ?_
      refine P_iconst (v := 0) d_Maps_kindOf_37 (by decide) ?_
      refine P_lald (j := 0) d_Maps_kindOf_38 hp ⟨by decide, by decide⟩ (by decide) ?_
      refine P_aload_n d_Maps_kindOf_39 rfl ?_
      refine P_iconst (v := 1) d_Maps_kindOf_40 (by decide) ?_
      refine P_lald (j := 1) d_Maps_kindOf_41 hp ⟨by decide, by decide⟩ (by decide) ?_
      refine P_lmul d_Maps_kindOf_42 ?_
      refine P_aload_n d_Maps_kindOf_43 rfl ?_
      refine P_iconst (v := 3) d_Maps_kindOf_44 (by decide) ?_
      refine P_lald (j := 3) d_Maps_kindOf_45 hp ⟨by decide, by decide⟩ (by decide) ?_
      refine P_aload_n d_Maps_kindOf_46 rfl ?_
      refine P_iconst (v := 4) d_Maps_kindOf_47 (by decide) ?_
      refine P_lald (j := 4) d_Maps_kindOf_48 hp ⟨by decide, by decide⟩ (by decide) ?_
      refine P_lmul d_Maps_kindOf_49 ?_
      refine P_ladd d_Maps_kindOf_50 ?_
      refine P_lconst (v := 0) d_Maps_kindOf_51 (by decide) ?_
      refine P_lcmp d_Maps_kindOf_52 ?_
      refine P_if_ne 76 d_Maps_kindOf_53 (by decide) (fun c3 => ?_) (fun c3 => ?_)
      · refine P_iconst (v := 4) d_Maps_kindOf_76 (by decide) ?_
        exact P_iret d_Maps_kindOf_77 rfl (le_b rfl) (le_b rfl) ⟨⟨_, rfl⟩, rfl⟩
      · refine P_aload_n d_Maps_kindOf_56 rfl ?_
        refine P_iconst (v := 1) d_Maps_kindOf_57 (by decide) ?_
        refine P_lald (j := 1) d_Maps_kindOf_58 hp ⟨by decide, by decide⟩ (by decide) ?_
        refine P_aload_n d_Maps_kindOf_59 rfl ?_
        refine P_iconst (v := 1) d_Maps_kindOf_60 (by decide) ?_
        refine P_lald (j := 1) d_Maps_kindOf_61 hp ⟨by decide, by decide⟩ (by decide) ?_
        refine P_lmul d_Maps_kindOf_62 ?_
        refine P_aload_n d_Maps_kindOf_63 rfl ?_
        refine P_iconst (v := 4) d_Maps_kindOf_64 (by decide) ?_
        refine P_lald (j := 4) d_Maps_kindOf_65 hp ⟨by decide, by decide⟩ (by decide) ?_
        refine P_aload_n d_Maps_kindOf_66 rfl ?_
        refine P_iconst (v := 4) d_Maps_kindOf_67 (by decide) ?_
        refine P_lald (j := 4) d_Maps_kindOf_68 hp ⟨by decide, by decide⟩ (by decide) ?_
        refine P_lmul d_Maps_kindOf_69 ?_
        refine P_ladd d_Maps_kindOf_70 ?_
        refine P_lload_n d_Maps_kindOf_71 rfl ?_
        refine P_lcmp d_Maps_kindOf_72 ?_
        refine P_if_eq 78 d_Maps_kindOf_73 (by decide) (fun c4 => ?_) (fun c4 => ?_)
        · refine P_lload_n d_Maps_kindOf_78 rfl ?_
          refine P_aload_n d_Maps_kindOf_79 rfl ?_
          refine P_bipush (v := 8) d_Maps_kindOf_80 (by decide) ?_
          refine P_lald (j := 8) d_Maps_kindOf_82 hp ⟨by decide, by decide⟩ (by decide) ?_
          refine P_aload_n d_Maps_kindOf_83 rfl ?_
          refine P_bipush (v := 8) d_Maps_kindOf_84 (by decide) ?_
          refine P_lald (j := 8) d_Maps_kindOf_86 hp ⟨by decide, by decide⟩ (by decide) ?_
          refine P_lmul d_Maps_kindOf_87 ?_
          refine P_lcmp d_Maps_kindOf_88 ?_
          refine P_if_eq 94 d_Maps_kindOf_89 (by decide) (fun c5 => ?_) (fun c5 => ?_)
          · refine P_aload_n d_Maps_kindOf_94 rfl ?_
            refine P_iconst (v := 1) d_Maps_kindOf_95 (by decide) ?_
            refine P_lald (j := 1) d_Maps_kindOf_96 hp ⟨by decide, by decide⟩ (by decide) ?_
            refine P_lconst (v := 0) d_Maps_kindOf_97 (by decide) ?_
            refine P_lcmp d_Maps_kindOf_98 ?_
            refine P_if_ne 132 d_Maps_kindOf_99 (by decide) (fun c6 => ?_) (fun c6 => ?_)
            · refine P_iconst (v := 2) d_Maps_kindOf_132 (by decide) ?_
              exact P_iret d_Maps_kindOf_133 rfl (le_b rfl) (le_b rfl) ⟨⟨_, rfl⟩, rfl⟩
            · refine P_aload_n d_Maps_kindOf_102 rfl ?_
              refine P_iconst (v := 3) d_Maps_kindOf_103 (by decide) ?_
              refine P_lald (j := 3) d_Maps_kindOf_104 hp ⟨by decide, by decide⟩ (by decide) ?_
              refine P_lconst (v := 0) d_Maps_kindOf_105 (by decide) ?_
              refine P_lcmp d_Maps_kindOf_106 ?_
              refine P_if_ne 132 d_Maps_kindOf_107 (by decide) (fun c7 => ?_) (fun c7 => ?_)
              · refine P_iconst (v := 2) d_Maps_kindOf_132 (by decide) ?_
                exact P_iret d_Maps_kindOf_133 rfl (le_b rfl) (le_b rfl) ⟨⟨_, rfl⟩, rfl⟩
              · refine P_aload_n d_Maps_kindOf_110 rfl ?_
                refine P_iconst (v := 0) d_Maps_kindOf_111 (by decide) ?_
                refine P_lald (j := 0) d_Maps_kindOf_112 hp ⟨by decide, by decide⟩ (by decide) ?_
                refine P_aload_n d_Maps_kindOf_113 rfl ?_
                refine P_bipush (v := 8) d_Maps_kindOf_114 (by decide) ?_
                refine P_lald (j := 8) d_Maps_kindOf_116 hp ⟨by decide, by decide⟩ (by decide) ?_
                refine P_lcmp d_Maps_kindOf_117 ?_
                refine P_if_ne 132 d_Maps_kindOf_118 (by decide) (fun c8 => ?_) (fun c8 => ?_)
                · refine P_iconst (v := 2) d_Maps_kindOf_132 (by decide) ?_
                  exact P_iret d_Maps_kindOf_133 rfl (le_b rfl) (le_b rfl) ⟨⟨_, rfl⟩, rfl⟩
                · refine P_aload_n d_Maps_kindOf_121 rfl ?_
                  refine P_iconst (v := 4) d_Maps_kindOf_122 (by decide) ?_
                  refine P_lald (j := 4) d_Maps_kindOf_123 hp ⟨by decide, by decide⟩ (by decide) ?_
                  refine P_aload_n d_Maps_kindOf_124 rfl ?_
                  refine P_bipush (v := 8) d_Maps_kindOf_125 (by decide) ?_
                  refine P_lald (j := 8) d_Maps_kindOf_127 hp ⟨by decide, by decide⟩ (by decide) ?_
                  refine P_lcmp d_Maps_kindOf_128 ?_
                  refine P_if_eq 134 d_Maps_kindOf_129 (by decide) (fun c9 => ?_) (fun c9 => ?_)
                  · refine P_aload_n d_Maps_kindOf_134 rfl ?_
                    refine P_iconst (v := 2) d_Maps_kindOf_135 (by decide) ?_
                    refine P_lald (j := 2) d_Maps_kindOf_136 hp ⟨by decide, by decide⟩ (by decide) ?_
                    refine P_lconst (v := 0) d_Maps_kindOf_137 (by decide) ?_
                    refine P_lcmp d_Maps_kindOf_138 ?_
                    refine P_if_ne 150 d_Maps_kindOf_139 (by decide) (fun c10 => ?_) (fun c10 => ?_)
                    · refine P_iconst (v := 1) d_Maps_kindOf_150 (by decide) ?_
                      refine P_goto 155 d_Maps_kindOf_151 (by decide) ?_
                      exact P_iret d_Maps_kindOf_155 rfl (le_b rfl) (le_b rfl) ⟨⟨_, rfl⟩, rfl⟩
                    · refine P_aload_n d_Maps_kindOf_142 rfl ?_
                      refine P_iconst (v := 5) d_Maps_kindOf_143 (by decide) ?_
                      refine P_lald (j := 5) d_Maps_kindOf_144 hp ⟨by decide, by decide⟩ (by decide) ?_
                      refine P_lconst (v := 0) d_Maps_kindOf_145 (by decide) ?_
                      refine P_lcmp d_Maps_kindOf_146 ?_
                      refine P_if_eq 154 d_Maps_kindOf_147 (by decide) (fun c11 => ?_) (fun c11 => ?_)
                      · refine P_iconst (v := 0) d_Maps_kindOf_154 (by decide) ?_
                        exact P_iret d_Maps_kindOf_155 rfl (le_b rfl) (le_b rfl) ⟨⟨_, rfl⟩, rfl⟩
                      · refine P_iconst (v := 1) d_Maps_kindOf_150 (by decide) ?_
                        refine P_goto 155 d_Maps_kindOf_151 (by decide) ?_
                        exact P_iret d_Maps_kindOf_155 rfl (le_b rfl) (le_b rfl) ⟨⟨_, rfl⟩, rfl⟩
                  · refine P_iconst (v := 2) d_Maps_kindOf_132 (by decide) ?_
                    exact P_iret d_Maps_kindOf_133 rfl (le_b rfl) (le_b rfl) ⟨⟨_, rfl⟩, rfl⟩
          · refine P_iconst (v := 3) d_Maps_kindOf_92 (by decide) ?_
            exact P_iret d_Maps_kindOf_93 rfl (le_b rfl) (le_b rfl) ⟨⟨_, rfl⟩, rfl⟩
        · refine P_iconst (v := 4) d_Maps_kindOf_76 (by decide) ?_
          exact P_iret d_Maps_kindOf_77 rfl (le_b rfl) (le_b rfl) ⟨⟨_, rfl⟩, rfl⟩
    · refine P_iconst (v := 5) d_Maps_kindOf_18 (by decide) ?_
      exact P_iret d_Maps_kindOf_19 rfl (le_b rfl) (le_b rfl) ⟨⟨_, rfl⟩, rfl⟩
theorem s_Integer_bitCount {G : pG} {w : pW} (a : Int32) : PM G M_Integer_bitCount 0 0 0 [.int a] w (fun r w' => (∃ v, r = some (.int v)) ∧ w' = w) := by
  refine PM_of pn_Integer_bitCount (le_b rfl) ?_
  show PW _ _ _ _ _ _ (0, [(0, .int a)], [], w)
  refine P_iload_n d_Integer_bitCount_0 rfl ?_
  refine P_iload_n d_Integer_bitCount_1 rfl ?_
  refine P_iconst (v := 1) d_Integer_bitCount_2 (by decide) ?_
  refine P_iushr d_Integer_bitCount_3 ?_
  generalize (a.toUInt32 >>> ((1 : Int32).toUInt32 &&& Int32.toUInt32 31)).toInt32 = zz1
  show PW _ _ _ _ _ _ (4, [(0, .int a)], [.int zz1, .int a], w)
  refine P_ldcw (v := 1431655765) d_Integer_bitCount_4 L_Integer_265 ?_
  refine P_iand d_Integer_bitCount_7 ?_
  generalize zz1 &&& (1431655765 : Int32) = zz2
  show PW _ _ _ _ _ _ (8, [(0, .int a)], [.int zz2, .int a], w)
  refine P_isub d_Integer_bitCount_8 ?_
  refine P_istore_n d_Integer_bitCount_9 (by decide) rfl ?_
  refine P_iload_n d_Integer_bitCount_10 rfl ?_
  refine P_ldcw (v := 858993459) d_Integer_bitCount_11 L_Integer_266 ?_
  refine P_iand d_Integer_bitCount_14 ?_
  generalize (a - zz2) &&& (858993459 : Int32) = zz3
  show PW _ _ _ _ _ _ (15, [(0, .int (a - zz2))], [.int zz3], w)
  refine P_iload_n d_Integer_bitCount_15 rfl ?_
  refine P_iconst (v := 2) d_Integer_bitCount_16 (by decide) ?_
  refine P_iushr d_Integer_bitCount_17 ?_
  generalize ((a - zz2).toUInt32 >>> ((2 : Int32).toUInt32 &&& Int32.toUInt32 31)).toInt32 = zz4
  show PW _ _ _ _ _ _ (18, [(0, .int (a - zz2))], [.int zz4, .int zz3], w)
  refine P_ldcw (v := 858993459) d_Integer_bitCount_18 L_Integer_266 ?_
  refine P_iand d_Integer_bitCount_21 ?_
  generalize zz4 &&& (858993459 : Int32) = zz5
  show PW _ _ _ _ _ _ (22, [(0, .int (a - zz2))], [.int zz5, .int zz3], w)
  refine P_iadd d_Integer_bitCount_22 ?_
  refine P_istore_n d_Integer_bitCount_23 (by decide) rfl ?_
  refine P_iload_n d_Integer_bitCount_24 rfl ?_
  refine P_iload_n d_Integer_bitCount_25 rfl ?_
  refine P_iconst (v := 4) d_Integer_bitCount_26 (by decide) ?_
  refine P_iushr d_Integer_bitCount_27 ?_
  generalize ((zz3 + zz5).toUInt32 >>> ((4 : Int32).toUInt32 &&& Int32.toUInt32 31)).toInt32 = zz6
  show PW _ _ _ _ _ _ (28, [(0, .int (zz3 + zz5))], [.int zz6, .int (zz3 + zz5)], w)
  refine P_iadd d_Integer_bitCount_28 ?_
  refine P_ldcw (v := 252645135) d_Integer_bitCount_29 L_Integer_267 ?_
  refine P_iand d_Integer_bitCount_32 ?_
  generalize ((zz3 + zz5) + zz6) &&& (252645135 : Int32) = zz7
  show PW _ _ _ _ _ _ (33, [(0, .int (zz3 + zz5))], [.int zz7], w)
  refine P_istore_n d_Integer_bitCount_33 (by decide) rfl ?_
  refine P_iload_n d_Integer_bitCount_34 rfl ?_
  refine P_iload_n d_Integer_bitCount_35 rfl ?_
  refine P_bipush (v := 8) d_Integer_bitCount_36 (by decide) ?_
  refine P_iushr d_Integer_bitCount_38 ?_
  generalize (zz7.toUInt32 >>> ((8 : Int32).toUInt32 &&& Int32.toUInt32 31)).toInt32 = zz8
  show PW _ _ _ _ _ _ (39, [(0, .int zz7)], [.int zz8, .int zz7], w)
  refine P_iadd d_Integer_bitCount_39 ?_
  refine P_istore_n d_Integer_bitCount_40 (by decide) rfl ?_
  refine P_iload_n d_Integer_bitCount_41 rfl ?_
  refine P_iload_n d_Integer_bitCount_42 rfl ?_
  refine P_bipush (v := 16) d_Integer_bitCount_43 (by decide) ?_
  refine P_iushr d_Integer_bitCount_45 ?_
  generalize ((zz7 + zz8).toUInt32 >>> ((16 : Int32).toUInt32 &&& Int32.toUInt32 31)).toInt32 = zz9
  show PW _ _ _ _ _ _ (46, [(0, .int (zz7 + zz8))], [.int zz9, .int (zz7 + zz8)], w)
  refine P_iadd d_Integer_bitCount_46 ?_
  refine P_istore_n d_Integer_bitCount_47 (by decide) rfl ?_
  refine P_iload_n d_Integer_bitCount_48 rfl ?_
  refine P_bipush (v := 63) d_Integer_bitCount_49 (by decide) ?_
  refine P_iand d_Integer_bitCount_51 ?_
  generalize ((zz7 + zz8) + zz9) &&& (63 : Int32) = zz10
  show PW _ _ _ _ _ _ (52, [(0, .int ((zz7 + zz8) + zz9))], [.int zz10], w)
  exact P_iret d_Integer_bitCount_52 rfl (le_b rfl) (le_b rfl) ⟨⟨_, rfl⟩, rfl⟩
theorem s_Quad_turnAt {G : pG} {w : pW} {x : Nat} (hq : QuadS w x) (k : Nat) (hk : k < 8) : PM G M_Quad_turnAt 1 0 0 [.ref x, .int (nI k)] w (fun r w' => (∃ v, r = some (.long v)) ∧ w' = w) := by
  refine PM_of pn_Quad_turnAt (le_b rfl) ?_
  show PW _ _ _ _ _ _ (0, [(0, .ref x), (1, .int (nI k))], [], w)
  refine P_aload_n d_Quad_turnAt_0 rfl ?_
  refine P_getf (i := 0) d_Quad_turnAt_1 ok_Quad (by decide) L_Quad_11 hq.1 rfl ?_
  refine P_iload_n d_Quad_turnAt_4 rfl ?_
  refine P_iconst (v := 3) d_Quad_turnAt_5 (by decide) ?_
  refine P_iaddN (a := k) (b := 3) d_Quad_turnAt_6 ?_
  show PW _ _ _ _ _ _ (7, [(0, .ref x), (1, .int (nI k))], [.int (nI (k + 3)), .ref (x + 1)], w)
  refine P_iconst (v := 3) d_Quad_turnAt_7 (by decide) ?_
  refine P_iandN (a := (k + 3)) (m := 3) 2 d_Quad_turnAt_8 (by omega) (by decide) ?_
  show PW _ _ _ _ _ _ (9, [(0, .ref x), (1, .int (nI k))], [.int (nI ((k + 3) % 4)), .ref (x + 1)], w)
  refine P_aald (j := (k + 3) % 4) (q := x + 1 + 1 + ((k + 3) % 4)) d_Quad_turnAt_9 hq.2.1 rfl (ix_nI (by omega)) (by omega) (rows_at (by omega)) ?_
  refine P_aload_n d_Quad_turnAt_10 rfl ?_
  refine P_getf (i := 0) d_Quad_turnAt_11 ok_Quad (by decide) L_Quad_11 hq.1 rfl ?_
  refine P_iload_n d_Quad_turnAt_14 rfl ?_
  refine P_iconst (v := 3) d_Quad_turnAt_15 (by decide) ?_
  refine P_iandN (a := k) (m := 3) 2 d_Quad_turnAt_16 (by omega) (by decide) ?_
  show PW _ _ _ _ _ _ (17, [(0, .ref x), (1, .int (nI k))], [.int (nI (k % 4)), .ref (x + 1), .ref (x + 1 + 1 + ((k + 3) % 4))], w)
  refine P_aald (j := k % 4) (q := x + 1 + 1 + (k % 4)) d_Quad_turnAt_17 hq.2.1 rfl (ix_nI (by omega)) (by omega) (rows_at (by omega)) ?_
  refine P_aload_n d_Quad_turnAt_18 rfl ?_
  refine P_getf (i := 0) d_Quad_turnAt_19 ok_Quad (by decide) L_Quad_11 hq.1 rfl ?_
  refine P_iload_n d_Quad_turnAt_22 rfl ?_
  refine P_iconst (v := 1) d_Quad_turnAt_23 (by decide) ?_
  refine P_iaddN (a := k) (b := 1) d_Quad_turnAt_24 ?_
  show PW _ _ _ _ _ _ (25, [(0, .ref x), (1, .int (nI k))], [.int (nI (k + 1)), .ref (x + 1), .ref (x + 1 + 1 + (k % 4)), .ref (x + 1 + 1 + ((k + 3) % 4))], w)
  refine P_iconst (v := 3) d_Quad_turnAt_25 (by decide) ?_
  refine P_iandN (a := (k + 1)) (m := 3) 2 d_Quad_turnAt_26 (by omega) (by decide) ?_
  show PW _ _ _ _ _ _ (27, [(0, .ref x), (1, .int (nI k))], [.int (nI ((k + 1) % 4)), .ref (x + 1), .ref (x + 1 + 1 + (k % 4)), .ref (x + 1 + 1 + ((k + 3) % 4))], w)
  refine P_aald (j := (k + 1) % 4) (q := x + 1 + 1 + ((k + 1) % 4)) d_Quad_turnAt_27 hq.2.1 rfl (ix_nI (by omega)) (by omega) (rows_at (by omega)) ?_
  obtain ⟨f1, f1e⟩ := hq.2.2 ((k + 3) % 4) (by omega)
  obtain ⟨f2, f2e⟩ := hq.2.2 (k % 4) (by omega)
  obtain ⟨f3, f3e⟩ := hq.2.2 ((k + 1) % 4) (by omega)
  refine P_callS (M := M_Quad_turnAt) (pc := 28) (as := [.ref (x + 1 + 1 + ((k + 3) % 4)), .ref (x + 1 + 1 + (k % 4)), .ref (x + 1 + 1 + ((k + 1) % 4))]) d_Quad_turnAt_28 co_Rows_determinant L_Quad_16 sm_Rows_determinant (s_Rows_determinant f1e f2e f3e) rfl ⟨by decide, by decide⟩ ⟨by decide, by decide⟩ (by exact le_b rfl) ?_ _ rfl
  rintro _ u ⟨⟨v4, rfl⟩, eu⟩
  subst u
  show PW _ _ _ _ _ _ (31, [(0, .ref x), (1, .int (nI k))], [.long v4], w)
  exact P_lret d_Quad_turnAt_31 rfl (le_b rfl) (le_b rfl) ⟨⟨_, rfl⟩, rfl⟩
theorem s_Quad_isFlat {G : pG} {w : pW} {x : Nat} (hq : QuadS w x) : PM G M_Quad_isFlat 2 0 0 [.ref x] w (fun r w' => (∃ v, r = some (.int (bi v))) ∧ w' = w) := by
  refine PM_of pn_Quad_isFlat (le_b rfl) ?_
  show PW _ _ _ _ _ _ (0, [(0, .ref x)], [], w)
  refine P_aload_n d_Quad_isFlat_0 rfl ?_
  refine P_iconst (v := 0) d_Quad_isFlat_1 (by decide) ?_
  refine P_callV (M := M_Quad_isFlat) (pc := 2) (as := [.int 0]) (b := x) d_Quad_isFlat_2 co_Quad_turnAt ok_Quad hq.1 L_Quad_22 im_Quad_turnAt se_Quad_turnAt (s_Quad_turnAt hq 0 (by decide)) rfl ⟨by decide, by decide⟩ ⟨by decide, by decide⟩ (by exact le_b rfl) ?_ _ rfl
  rintro _ u ⟨⟨v1, rfl⟩, eu⟩
  subst u
  show PW _ _ _ _ _ _ (5, [(0, .ref x)], [.long v1], w)
  refine P_lconst (v := 0) d_Quad_isFlat_5 (by decide) ?_
  refine P_lcmp d_Quad_isFlat_6 ?_
  refine P_if_eq 40 d_Quad_isFlat_7 (by decide) (fun c2 => ?_) (fun c2 => ?_)
  · refine P_iconst (v := 1) d_Quad_isFlat_40 (by decide) ?_
    refine P_goto 45 d_Quad_isFlat_41 (by decide) ?_
    exact P_zret d_Quad_isFlat_45 rfl rfl (le_b rfl) (le_b rfl) ⟨⟨true, rfl⟩, rfl⟩
  · refine P_aload_n d_Quad_isFlat_10 rfl ?_
    refine P_iconst (v := 1) d_Quad_isFlat_11 (by decide) ?_
    refine P_callV (M := M_Quad_isFlat) (pc := 12) (as := [.int 1]) (b := x) d_Quad_isFlat_12 co_Quad_turnAt ok_Quad hq.1 L_Quad_22 im_Quad_turnAt se_Quad_turnAt (s_Quad_turnAt hq 1 (by decide)) rfl ⟨by decide, by decide⟩ ⟨by decide, by decide⟩ (by exact le_b rfl) ?_ _ rfl
    rintro _ u ⟨⟨v3, rfl⟩, eu⟩
    subst u
    show PW _ _ _ _ _ _ (15, [(0, .ref x)], [.long v3], w)
    refine P_lconst (v := 0) d_Quad_isFlat_15 (by decide) ?_
    refine P_lcmp d_Quad_isFlat_16 ?_
    refine P_if_eq 40 d_Quad_isFlat_17 (by decide) (fun c4 => ?_) (fun c4 => ?_)
    · refine P_iconst (v := 1) d_Quad_isFlat_40 (by decide) ?_
      refine P_goto 45 d_Quad_isFlat_41 (by decide) ?_
      exact P_zret d_Quad_isFlat_45 rfl rfl (le_b rfl) (le_b rfl) ⟨⟨true, rfl⟩, rfl⟩
    · refine P_aload_n d_Quad_isFlat_20 rfl ?_
      refine P_iconst (v := 2) d_Quad_isFlat_21 (by decide) ?_
      refine P_callV (M := M_Quad_isFlat) (pc := 22) (as := [.int 2]) (b := x) d_Quad_isFlat_22 co_Quad_turnAt ok_Quad hq.1 L_Quad_22 im_Quad_turnAt se_Quad_turnAt (s_Quad_turnAt hq 2 (by decide)) rfl ⟨by decide, by decide⟩ ⟨by decide, by decide⟩ (by exact le_b rfl) ?_ _ rfl
      rintro _ u ⟨⟨v5, rfl⟩, eu⟩
      subst u
      show PW _ _ _ _ _ _ (25, [(0, .ref x)], [.long v5], w)
      refine P_lconst (v := 0) d_Quad_isFlat_25 (by decide) ?_
      refine P_lcmp d_Quad_isFlat_26 ?_
      refine P_if_eq 40 d_Quad_isFlat_27 (by decide) (fun c6 => ?_) (fun c6 => ?_)
      · refine P_iconst (v := 1) d_Quad_isFlat_40 (by decide) ?_
        refine P_goto 45 d_Quad_isFlat_41 (by decide) ?_
        exact P_zret d_Quad_isFlat_45 rfl rfl (le_b rfl) (le_b rfl) ⟨⟨true, rfl⟩, rfl⟩
      · refine P_aload_n d_Quad_isFlat_30 rfl ?_
        refine P_iconst (v := 3) d_Quad_isFlat_31 (by decide) ?_
        refine P_callV (M := M_Quad_isFlat) (pc := 32) (as := [.int 3]) (b := x) d_Quad_isFlat_32 co_Quad_turnAt ok_Quad hq.1 L_Quad_22 im_Quad_turnAt se_Quad_turnAt (s_Quad_turnAt hq 3 (by decide)) rfl ⟨by decide, by decide⟩ ⟨by decide, by decide⟩ (by exact le_b rfl) ?_ _ rfl
        rintro _ u ⟨⟨v7, rfl⟩, eu⟩
        subst u
        show PW _ _ _ _ _ _ (35, [(0, .ref x)], [.long v7], w)
        refine P_lconst (v := 0) d_Quad_isFlat_35 (by decide) ?_
        refine P_lcmp d_Quad_isFlat_36 ?_
        refine P_if_ne 44 d_Quad_isFlat_37 (by decide) (fun c8 => ?_) (fun c8 => ?_)
        · refine P_iconst (v := 0) d_Quad_isFlat_44 (by decide) ?_
          exact P_zret d_Quad_isFlat_45 rfl rfl (le_b rfl) (le_b rfl) ⟨⟨false, rfl⟩, rfl⟩
        · refine P_iconst (v := 1) d_Quad_isFlat_40 (by decide) ?_
          refine P_goto 45 d_Quad_isFlat_41 (by decide) ?_
          exact P_zret d_Quad_isFlat_45 rfl rfl (le_b rfl) (le_b rfl) ⟨⟨true, rfl⟩, rfl⟩
theorem s_Quad_leftTurns {G : pG} {w : pW} {x : Nat} (hq : QuadS w x) : PM G M_Quad_leftTurns 2 0 0 [.ref x] w (fun r w' => (∃ v, r = some (.int v)) ∧ w' = w) := by
  refine PM_of pn_Quad_leftTurns (le_b rfl) ?_
  show PW _ _ _ _ _ _ (0, [(0, .ref x)], [], w)
  refine P_iconst (v := 0) d_Quad_leftTurns_0 (by decide) ?_
  refine P_istore_n d_Quad_leftTurns_1 (by decide) rfl ?_
  refine P_iconst (v := 0) d_Quad_leftTurns_2 (by decide) ?_
  refine P_istore_n d_Quad_leftTurns_3 (by decide) rfl ?_
  refine PW_ind (σ := Int32) (4) (fun jj ss => True) (fun jj ss => (4, [(0, .ref x), (1, .int ss), (2, .int (nI jj))], [], w)) ?_ ?_ 0 (0) (by omega) trivial
  · rintro j1_1 _
    show PW _ _ _ _ _ _ (4, [(0, .ref x), (1, .int j1_1), (2, .int 4)], [], w)
    refine P_iload_n d_Quad_leftTurns_4 rfl ?_
    refine P_iconst (v := 4) d_Quad_leftTurns_5 (by decide) ?_
    refine P_icmp_ge 31 d_Quad_leftTurns_6 (by decide) (fun _ => ?_) (fun h => absurd (by decide) h)
    refine P_iload_n d_Quad_leftTurns_31 rfl ?_
    exact P_iret d_Quad_leftTurns_32 rfl (le_b rfl) (le_b rfl) ⟨⟨_, rfl⟩, rfl⟩
  · rintro j1 j1_1 hj1 _ kkj1
    show PW _ _ _ _ _ _ (4, [(0, .ref x), (1, .int j1_1), (2, .int (nI j1))], [], w)
    refine P_iload_n d_Quad_leftTurns_4 rfl ?_
    refine P_iconst (v := 4) d_Quad_leftTurns_5 (by decide) ?_
    refine P_icmp_ge 31 d_Quad_leftTurns_6 (by decide) (fun h => absurd h (nI_geF (a := j1) (b := 4) (by omega) (by omega))) (fun _ => ?_)
    refine P_aload_n d_Quad_leftTurns_9 rfl ?_
    refine P_iload_n d_Quad_leftTurns_10 rfl ?_
    refine P_callV (M := M_Quad_leftTurns) (pc := 11) (as := [.int (nI j1)]) (b := x) d_Quad_leftTurns_11 co_Quad_turnAt ok_Quad hq.1 L_Quad_22 im_Quad_turnAt se_Quad_turnAt (s_Quad_turnAt hq j1 (by omega)) rfl ⟨by decide, by decide⟩ ⟨by decide, by decide⟩ (by exact le_b rfl) ?_ _ rfl
    rintro _ u ⟨⟨v2, rfl⟩, eu⟩
    subst u
    show PW _ _ _ _ _ _ (14, [(0, .ref x), (1, .int j1_1), (2, .int (nI j1))], [.long v2], w)
    refine P_lconst (v := 0) d_Quad_leftTurns_14 (by decide) ?_
    refine P_lcmp d_Quad_leftTurns_15 ?_
    refine P_if_le 25 d_Quad_leftTurns_16 (by decide) (fun c3 => ?_) (fun c3 => ?_)
    · refine P_iinc (v := nI (j1 + 1)) d_Quad_leftTurns_25 (by decide) rfl (nI_add j1 1) rfl ?_
      refine P_goto 4 d_Quad_leftTurns_28 (by decide) ?_
      exact kkj1 (j1_1) trivial
    · refine P_iload_n d_Quad_leftTurns_19 rfl ?_
      refine P_iconst (v := 1) d_Quad_leftTurns_20 (by decide) ?_
      refine P_iload_n d_Quad_leftTurns_21 rfl ?_
      refine P_ishl d_Quad_leftTurns_22 ?_
      generalize (1 : Int32) <<< ((nI j1) &&& 31) = zz4
      show PW _ _ _ _ _ _ (23, [(0, .ref x), (1, .int j1_1), (2, .int (nI j1))], [.int zz4, .int j1_1], w)
      refine P_ior d_Quad_leftTurns_23 ?_
      generalize j1_1 ||| zz4 = zz5
      show PW _ _ _ _ _ _ (24, [(0, .ref x), (1, .int j1_1), (2, .int (nI j1))], [.int zz5], w)
      refine P_istore_n d_Quad_leftTurns_24 (by decide) rfl ?_
      refine P_iinc (v := nI (j1 + 1)) d_Quad_leftTurns_25 (by decide) rfl (nI_add j1 1) rfl ?_
      refine P_goto 4 d_Quad_leftTurns_28 (by decide) ?_
      exact kkj1 (zz5) trivial
theorem s_Quad_leftTurnsBy {G : pG} {w : pW} {x : Nat} (hq : QuadS w x) {p : Nat} {fp : Nat → Int64} (hp : w.2 p = .inl (1, 9, .inr (.inl fp))) : PM G M_Quad_leftTurnsBy 2 0 0 [.ref x, .ref p] w (fun r w' => (∃ v, r = some (.int v)) ∧ w' = w) := by
  refine PM_of pn_Quad_leftTurnsBy (le_b rfl) ?_
  show PW _ _ _ _ _ _ (0, [(0, .ref x), (1, .ref p)], [], w)
  refine P_iconst (v := 0) d_Quad_leftTurnsBy_0 (by decide) ?_
  refine P_istore_n d_Quad_leftTurnsBy_1 (by decide) rfl ?_
  refine P_iconst (v := 0) d_Quad_leftTurnsBy_2 (by decide) ?_
  refine P_istore_n d_Quad_leftTurnsBy_3 (by decide) rfl ?_
  refine PW_ind (σ := Int32) (4) (fun jj ss => True) (fun jj ss => (4, [(0, .ref x), (1, .ref p), (2, .int ss), (3, .int (nI jj))], [], w)) ?_ ?_ 0 (0) (by omega) trivial
  · rintro j1_2 _
    show PW _ _ _ _ _ _ (4, [(0, .ref x), (1, .ref p), (2, .int j1_2), (3, .int 4)], [], w)
    refine P_iload_n d_Quad_leftTurnsBy_4 rfl ?_
    refine P_iconst (v := 4) d_Quad_leftTurnsBy_5 (by decide) ?_
    refine P_icmp_ge 76 d_Quad_leftTurnsBy_6 (by decide) (fun _ => ?_) (fun h => absurd (by decide) h)
    refine P_iload_n d_Quad_leftTurnsBy_76 rfl ?_
    exact P_iret d_Quad_leftTurnsBy_77 rfl (le_b rfl) (le_b rfl) ⟨⟨_, rfl⟩, rfl⟩
  · rintro j1 j1_2 hj1 _ kkj1
    show PW _ _ _ _ _ _ (4, [(0, .ref x), (1, .ref p), (2, .int j1_2), (3, .int (nI j1))], [], w)
    refine P_iload_n d_Quad_leftTurnsBy_4 rfl ?_
    refine P_iconst (v := 4) d_Quad_leftTurnsBy_5 (by decide) ?_
    refine P_icmp_ge 76 d_Quad_leftTurnsBy_6 (by decide) (fun h => absurd h (nI_geF (a := j1) (b := 4) (by omega) (by omega))) (fun _ => ?_)
    refine P_aload_n d_Quad_leftTurnsBy_9 rfl ?_
    refine P_iload_n d_Quad_leftTurnsBy_10 rfl ?_
    refine P_callV (M := M_Quad_leftTurnsBy) (pc := 11) (as := [.int (nI j1)]) (b := x) d_Quad_leftTurnsBy_11 co_Quad_turnAt ok_Quad hq.1 L_Quad_22 im_Quad_turnAt se_Quad_turnAt (s_Quad_turnAt hq j1 (by omega)) rfl ⟨by decide, by decide⟩ ⟨by decide, by decide⟩ (by exact le_b rfl) ?_ _ rfl
    rintro _ u ⟨⟨v2, rfl⟩, eu⟩
    subst u
    show PW _ _ _ _ _ _ (14, [(0, .ref x), (1, .ref p), (2, .int j1_2), (3, .int (nI j1))], [.long v2], w)
    refine P_callS (M := M_Quad_leftTurnsBy) (pc := 14) (as := [.long v2]) d_Quad_leftTurnsBy_14 co_Rows_sign L_Quad_26 sm_Rows_sign (s_Rows_sign v2) rfl ⟨by decide, by decide⟩ ⟨by decide, by decide⟩ (by exact le_b rfl) ?_ _ rfl
    rintro _ u ⟨⟨v3, rfl⟩, eu⟩
    subst u
    show PW _ _ _ _ _ _ (17, [(0, .ref x), (1, .ref p), (2, .int j1_2), (3, .int (nI j1))], [.int v3], w)
    refine P_istore d_Quad_leftTurnsBy_17 (by decide) rfl ?_
    refine P_iload_n d_Quad_leftTurnsBy_19 rfl ?_
    refine P_iconst (v := 3) d_Quad_leftTurnsBy_20 (by decide) ?_
    refine P_iaddN (a := j1) (b := 3) d_Quad_leftTurnsBy_21 ?_
    show PW _ _ _ _ _ _ (22, [(0, .ref x), (1, .ref p), (2, .int j1_2), (3, .int (nI j1)), (4, .int v3)], [.int (nI (j1 + 3))], w)
    refine P_istore d_Quad_leftTurnsBy_22 (by decide) rfl ?_
    refine PW_ind (σ := Int32) ((j1 + 5) + 1) (fun jj ss => True) (fun jj ss => (24, [(0, .ref x), (1, .ref p), (2, .int j1_2), (3, .int (nI j1)), (4, .int ss), (5, .int (nI jj))], [], w)) ?_ ?_ (j1 + 3) (v3) (by omega) trivial
    · rintro j4_4 _
      show PW _ _ _ _ _ _ (24, [(0, .ref x), (1, .ref p), (2, .int j1_2), (3, .int (nI j1)), (4, .int j4_4), (5, .int (nI ((j1 + 5) + 1)))], [], w)
      refine P_iload d_Quad_leftTurnsBy_24 rfl ?_
      refine P_iload_n d_Quad_leftTurnsBy_26 rfl ?_
      refine P_iconst (v := 5) d_Quad_leftTurnsBy_27 (by decide) ?_
      refine P_iaddN (a := j1) (b := 5) d_Quad_leftTurnsBy_28 ?_
      show PW _ _ _ _ _ _ (29, [(0, .ref x), (1, .ref p), (2, .int j1_2), (3, .int (nI j1)), (4, .int j4_4), (5, .int (nI ((j1 + 5) + 1)))], [.int (nI (j1 + 5)), .int (nI ((j1 + 5) + 1))], w)
      refine P_icmp_gt 59 d_Quad_leftTurnsBy_29 (by decide) (fun _ => ?_) (fun h => absurd (nI_gtT (a := (j1 + 5) + 1) (b := (j1 + 5)) (by omega) (by omega)) h)
      refine P_iload d_Quad_leftTurnsBy_59 rfl ?_
      refine P_if_le 70 d_Quad_leftTurnsBy_61 (by decide) (fun c5 => ?_) (fun c5 => ?_)
      · refine P_iinc (v := nI (j1 + 1)) d_Quad_leftTurnsBy_70 (by decide) rfl (nI_add j1 1) rfl ?_
        refine P_goto 4 d_Quad_leftTurnsBy_73 (by decide) ?_
        show PW _ _ _ _ _ _ (4, [(0, .ref x), (1, .ref p), (2, .int j1_2), (3, .int (nI (j1 + 1))), (4, .int j4_4), (5, .int (nI ((j1 + 5) + 1)))], [], w)
        refine PW.drop (lv' := [(0, .ref x), (1, .ref p), (2, .int j1_2), (3, .int (nI (j1 + 1)))]) (by simp) ?_
        exact kkj1 (j1_2) trivial
      · refine P_iload_n d_Quad_leftTurnsBy_64 rfl ?_
        refine P_iconst (v := 1) d_Quad_leftTurnsBy_65 (by decide) ?_
        refine P_iload_n d_Quad_leftTurnsBy_66 rfl ?_
        refine P_ishl d_Quad_leftTurnsBy_67 ?_
        generalize (1 : Int32) <<< ((nI j1) &&& 31) = zz6
        show PW _ _ _ _ _ _ (68, [(0, .ref x), (1, .ref p), (2, .int j1_2), (3, .int (nI j1)), (4, .int j4_4), (5, .int (nI ((j1 + 5) + 1)))], [.int zz6, .int j1_2], w)
        refine P_ior d_Quad_leftTurnsBy_68 ?_
        generalize j1_2 ||| zz6 = zz7
        show PW _ _ _ _ _ _ (69, [(0, .ref x), (1, .ref p), (2, .int j1_2), (3, .int (nI j1)), (4, .int j4_4), (5, .int (nI ((j1 + 5) + 1)))], [.int zz7], w)
        refine P_istore_n d_Quad_leftTurnsBy_69 (by decide) rfl ?_
        refine P_iinc (v := nI (j1 + 1)) d_Quad_leftTurnsBy_70 (by decide) rfl (nI_add j1 1) rfl ?_
        refine P_goto 4 d_Quad_leftTurnsBy_73 (by decide) ?_
        show PW _ _ _ _ _ _ (4, [(0, .ref x), (1, .ref p), (2, .int zz7), (3, .int (nI (j1 + 1))), (4, .int j4_4), (5, .int (nI ((j1 + 5) + 1)))], [], w)
        refine PW.drop (lv' := [(0, .ref x), (1, .ref p), (2, .int zz7), (3, .int (nI (j1 + 1)))]) (by simp) ?_
        exact kkj1 (zz7) trivial
    · rintro j4 j4_4 hj4 _ kkj4
      show PW _ _ _ _ _ _ (24, [(0, .ref x), (1, .ref p), (2, .int j1_2), (3, .int (nI j1)), (4, .int j4_4), (5, .int (nI j4))], [], w)
      refine P_iload d_Quad_leftTurnsBy_24 rfl ?_
      refine P_iload_n d_Quad_leftTurnsBy_26 rfl ?_
      refine P_iconst (v := 5) d_Quad_leftTurnsBy_27 (by decide) ?_
      refine P_iaddN (a := j1) (b := 5) d_Quad_leftTurnsBy_28 ?_
      show PW _ _ _ _ _ _ (29, [(0, .ref x), (1, .ref p), (2, .int j1_2), (3, .int (nI j1)), (4, .int j4_4), (5, .int (nI j4))], [.int (nI (j1 + 5)), .int (nI j4)], w)
      refine P_icmp_gt 59 d_Quad_leftTurnsBy_29 (by decide) (fun h => absurd h (nI_gtF (a := j4) (b := (j1 + 5)) (by omega) (by omega))) (fun _ => ?_)
      refine P_iload d_Quad_leftTurnsBy_32 rfl ?_
      refine P_aload_n d_Quad_leftTurnsBy_34 rfl ?_
      refine P_aload_n d_Quad_leftTurnsBy_35 rfl ?_
      refine P_getf (i := 0) d_Quad_leftTurnsBy_36 ok_Quad (by decide) L_Quad_11 hq.1 rfl ?_
      refine P_iload d_Quad_leftTurnsBy_39 rfl ?_
      refine P_iconst (v := 3) d_Quad_leftTurnsBy_41 (by decide) ?_
      refine P_iandN (a := j4) (m := 3) 2 d_Quad_leftTurnsBy_42 (by omega) (by decide) ?_
      show PW _ _ _ _ _ _ (43, [(0, .ref x), (1, .ref p), (2, .int j1_2), (3, .int (nI j1)), (4, .int j4_4), (5, .int (nI j4))], [.int (nI (j4 % 4)), .ref (x + 1), .ref p, .int j4_4], w)
      refine P_aald (j := j4 % 4) (q := x + 1 + 1 + (j4 % 4)) d_Quad_leftTurnsBy_43 hq.2.1 rfl (ix_nI (by omega)) (by omega) (rows_at (by omega)) ?_
      obtain ⟨f8, f8e⟩ := hq.2.2 (j4 % 4) (by omega)
      refine P_callS (M := M_Quad_leftTurnsBy) (pc := 44) (as := [.ref p, .ref (x + 1 + 1 + (j4 % 4))]) d_Quad_leftTurnsBy_44 co_Maps_height L_Quad_30 sm_Maps_height (s_Maps_height hp f8e) rfl ⟨by decide, by decide⟩ ⟨by decide, by decide⟩ (by exact le_b rfl) ?_ _ rfl
      rintro _ u ⟨⟨v9, rfl⟩, eu⟩
      subst u
      show PW _ _ _ _ _ _ (47, [(0, .ref x), (1, .ref p), (2, .int j1_2), (3, .int (nI j1)), (4, .int j4_4), (5, .int (nI j4))], [.long v9, .int j4_4], w)
      refine P_callS (M := M_Quad_leftTurnsBy) (pc := 47) (as := [.long v9]) d_Quad_leftTurnsBy_47 co_Rows_sign L_Quad_26 sm_Rows_sign (s_Rows_sign v9) rfl ⟨by decide, by decide⟩ ⟨by decide, by decide⟩ (by exact le_b rfl) ?_ _ rfl
      rintro _ u ⟨⟨v10, rfl⟩, eu⟩
      subst u
      show PW _ _ _ _ _ _ (50, [(0, .ref x), (1, .ref p), (2, .int j1_2), (3, .int (nI j1)), (4, .int j4_4), (5, .int (nI j4))], [.int v10, .int j4_4], w)
      refine P_imul d_Quad_leftTurnsBy_50 ?_
      refine P_istore d_Quad_leftTurnsBy_51 (by decide) rfl ?_
      refine P_iinc (v := nI (j4 + 1)) d_Quad_leftTurnsBy_53 (by decide) rfl (nI_add j4 1) rfl ?_
      refine P_goto 24 d_Quad_leftTurnsBy_56 (by decide) ?_
      exact kkj4 (j4_4 * v10) trivial
theorem s_Quad_formOf {G : pG} {w : pW} (a : Int32) : PM G M_Quad_formOf 1 0 0 [.int a] w (fun r w' => (∃ v, r = some (.int v)) ∧ w' = w) := by
  refine PM_of pn_Quad_formOf (le_b rfl) ?_
  show PW _ _ _ _ _ _ (0, [(0, .int a)], [], w)
  refine P_iload_n d_Quad_formOf_0 rfl ?_
  refine P_callS (M := M_Quad_formOf) (pc := 1) (as := [.int a]) d_Quad_formOf_1 co_Integer_bitCount L_Quad_36 sm_Integer_bitCount (s_Integer_bitCount a) rfl ⟨by decide, by decide⟩ ⟨by decide, by decide⟩ (by exact le_b rfl) ?_ _ rfl
  rintro _ u ⟨⟨v1, rfl⟩, eu⟩
  subst u
  show PW _ _ _ _ _ _ (4, [(0, .int a)], [.int v1], w)
  refine P_istore_n d_Quad_formOf_4 (by decide) rfl ?_
  refine P_iload_n d_Quad_formOf_5 rfl ?_
  refine P_iconst (v := 2) d_Quad_formOf_6 (by decide) ?_
  refine P_icmp_ne 12 d_Quad_formOf_7 (by decide) (fun c2 => ?_) (fun c2 => ?_)
  · refine P_iload_n d_Quad_formOf_12 rfl ?_
    refine P_if_eq 21 d_Quad_formOf_13 (by decide) (fun c3 => ?_) (fun c3 => ?_)
    · refine P_iconst (v := 0) d_Quad_formOf_21 (by decide) ?_
      refine P_goto 26 d_Quad_formOf_22 (by decide) ?_
      exact P_iret d_Quad_formOf_26 rfl (le_b rfl) (le_b rfl) ⟨⟨_, rfl⟩, rfl⟩
    · refine P_iload_n d_Quad_formOf_16 rfl ?_
      refine P_iconst (v := 4) d_Quad_formOf_17 (by decide) ?_
      refine P_icmp_ne 25 d_Quad_formOf_18 (by decide) (fun c4 => ?_) (fun c4 => ?_)
      · refine P_iconst (v := 1) d_Quad_formOf_25 (by decide) ?_
        exact P_iret d_Quad_formOf_26 rfl (le_b rfl) (le_b rfl) ⟨⟨_, rfl⟩, rfl⟩
      · refine P_iconst (v := 0) d_Quad_formOf_21 (by decide) ?_
        refine P_goto 26 d_Quad_formOf_22 (by decide) ?_
        exact P_iret d_Quad_formOf_26 rfl (le_b rfl) (le_b rfl) ⟨⟨_, rfl⟩, rfl⟩
  · refine P_iconst (v := 2) d_Quad_formOf_10 (by decide) ?_
    exact P_iret d_Quad_formOf_11 rfl (le_b rfl) (le_b rfl) ⟨⟨_, rfl⟩, rfl⟩
theorem s_Quad_doubledArea {G : pG} {w : pW} {x : Nat} (hq : QuadS w x) : PM G M_Quad_doubledArea 0 0 0 [.ref x] w (fun r w' => (∃ v, r = some (.long v)) ∧ w' = w) := by
  refine PM_of pn_Quad_doubledArea (le_b rfl) ?_
  show PW _ _ _ _ _ _ (0, [(0, .ref x)], [], w)
  refine P_lconst (v := 0) d_Quad_doubledArea_0 (by decide) ?_
  refine P_lstore_n d_Quad_doubledArea_1 (by decide) rfl ?_
  refine P_iconst (v := 0) d_Quad_doubledArea_2 (by decide) ?_
  refine P_istore_n d_Quad_doubledArea_3 (by decide) rfl ?_
  refine PW_ind (σ := Int64) (4) (fun jj ss => True) (fun jj ss => (4, [(0, .ref x), (1, .long ss), (3, .int (nI jj))], [], w)) ?_ ?_ 0 (0) (by omega) trivial
  · rintro j1_1 _
    show PW _ _ _ _ _ _ (4, [(0, .ref x), (1, .long j1_1), (3, .int 4)], [], w)
    refine P_iload_n d_Quad_doubledArea_4 rfl ?_
    refine P_iconst (v := 4) d_Quad_doubledArea_5 (by decide) ?_
    refine P_icmp_ge 57 d_Quad_doubledArea_6 (by decide) (fun _ => ?_) (fun h => absurd (by decide) h)
    refine P_lload_n d_Quad_doubledArea_57 rfl ?_
    exact P_lret d_Quad_doubledArea_58 rfl (le_b rfl) (le_b rfl) ⟨⟨_, rfl⟩, rfl⟩
  · rintro j1 j1_1 hj1 _ kkj1
    show PW _ _ _ _ _ _ (4, [(0, .ref x), (1, .long j1_1), (3, .int (nI j1))], [], w)
    refine P_iload_n d_Quad_doubledArea_4 rfl ?_
    refine P_iconst (v := 4) d_Quad_doubledArea_5 (by decide) ?_
    refine P_icmp_ge 57 d_Quad_doubledArea_6 (by decide) (fun h => absurd h (nI_geF (a := j1) (b := 4) (by omega) (by omega))) (fun _ => ?_)
    refine P_aload_n d_Quad_doubledArea_9 rfl ?_
    refine P_getf (i := 0) d_Quad_doubledArea_10 ok_Quad (by decide) L_Quad_11 hq.1 rfl ?_
    refine P_iload_n d_Quad_doubledArea_13 rfl ?_
    refine P_aald (j := j1) (q := x + 1 + 1 + j1) d_Quad_doubledArea_14 hq.2.1 rfl (ix_nI (by omega)) (by omega) (rows_at (by omega)) ?_
    refine P_astore d_Quad_doubledArea_15 (by decide) rfl ?_
    refine P_aload_n d_Quad_doubledArea_17 rfl ?_
    refine P_getf (i := 0) d_Quad_doubledArea_18 ok_Quad (by decide) L_Quad_11 hq.1 rfl ?_
    refine P_iload_n d_Quad_doubledArea_21 rfl ?_
    refine P_iconst (v := 1) d_Quad_doubledArea_22 (by decide) ?_
    refine P_iaddN (a := j1) (b := 1) d_Quad_doubledArea_23 ?_
    show PW _ _ _ _ _ _ (24, [(0, .ref x), (1, .long j1_1), (3, .int (nI j1)), (4, .ref (x + 1 + 1 + j1))], [.int (nI (j1 + 1)), .ref (x + 1)], w)
    refine P_iconst (v := 3) d_Quad_doubledArea_24 (by decide) ?_
    refine P_iandN (a := (j1 + 1)) (m := 3) 2 d_Quad_doubledArea_25 (by omega) (by decide) ?_
    show PW _ _ _ _ _ _ (26, [(0, .ref x), (1, .long j1_1), (3, .int (nI j1)), (4, .ref (x + 1 + 1 + j1))], [.int (nI ((j1 + 1) % 4)), .ref (x + 1)], w)
    refine P_aald (j := (j1 + 1) % 4) (q := x + 1 + 1 + ((j1 + 1) % 4)) d_Quad_doubledArea_26 hq.2.1 rfl (ix_nI (by omega)) (by omega) (rows_at (by omega)) ?_
    refine P_astore d_Quad_doubledArea_27 (by decide) rfl ?_
    refine P_lload_n d_Quad_doubledArea_29 rfl ?_
    refine P_aload d_Quad_doubledArea_30 rfl ?_
    refine P_iconst (v := 0) d_Quad_doubledArea_32 (by decide) ?_
    obtain ⟨f2, f2e⟩ := hq.2.2 j1 (by omega)
    refine P_lald (j := 0) d_Quad_doubledArea_33 f2e ⟨by decide, by decide⟩ (by decide) ?_
    refine P_aload d_Quad_doubledArea_34 rfl ?_
    refine P_iconst (v := 1) d_Quad_doubledArea_36 (by decide) ?_
    obtain ⟨f3, f3e⟩ := hq.2.2 ((j1 + 1) % 4) (by omega)
    refine P_lald (j := 1) d_Quad_doubledArea_37 f3e ⟨by decide, by decide⟩ (by decide) ?_
    refine P_lmul d_Quad_doubledArea_38 ?_
    refine P_aload d_Quad_doubledArea_39 rfl ?_
    refine P_iconst (v := 1) d_Quad_doubledArea_41 (by decide) ?_
    refine P_lald (j := 1) d_Quad_doubledArea_42 f2e ⟨by decide, by decide⟩ (by decide) ?_
    refine P_aload d_Quad_doubledArea_43 rfl ?_
    refine P_iconst (v := 0) d_Quad_doubledArea_45 (by decide) ?_
    refine P_lald (j := 0) d_Quad_doubledArea_46 f3e ⟨by decide, by decide⟩ (by decide) ?_
    refine P_lmul d_Quad_doubledArea_47 ?_
    refine P_lsub d_Quad_doubledArea_48 ?_
    refine P_ladd d_Quad_doubledArea_49 ?_
    refine P_lstore_n d_Quad_doubledArea_50 (by decide) rfl ?_
    refine P_iinc (v := nI (j1 + 1)) d_Quad_doubledArea_51 (by decide) rfl (nI_add j1 1) rfl ?_
    refine P_goto 4 d_Quad_doubledArea_54 (by decide) ?_
    show PW _ _ _ _ _ _ (4, [(0, .ref x), (1, .long (j1_1 + (((f2 0) * (f3 1)) - ((f2 1) * (f3 0))))), (3, .int (nI (j1 + 1))), (4, .ref (x + 1 + 1 + j1)), (5, .ref (x + 1 + 1 + ((j1 + 1) % 4)))], [], w)
    refine PW.drop (lv' := [(0, .ref x), (1, .long (j1_1 + (((f2 0) * (f3 1)) - ((f2 1) * (f3 0))))), (3, .int (nI (j1 + 1)))]) (by simp) ?_
    exact kkj1 (j1_1 + (((f2 0) * (f3 1)) - ((f2 1) * (f3 0)))) trivial
theorem s_Quad_hasCorner {G : pG} {w : pW} {x : Nat} (hq : QuadS w x) {p : Nat} {fp : Nat → Int64} (hp : w.2 p = .inl (1, 3, .inr (.inl fp))) : PM G M_Quad_hasCorner 1 0 0 [.ref x, .ref p] w (fun r w' => (∃ v, r = some (.int (bi v))) ∧ w' = w) := by
  refine PM_of pn_Quad_hasCorner (le_b rfl) ?_
  show PW _ _ _ _ _ _ (0, [(0, .ref x), (1, .ref p)], [], w)
  refine P_iconst (v := 0) d_Quad_hasCorner_0 (by decide) ?_
  refine P_istore_n d_Quad_hasCorner_1 (by decide) rfl ?_
  refine PW_ind (σ := Unit) (4) (fun jj ss => True) (fun jj ss => (2, [(0, .ref x), (1, .ref p), (2, .int (nI jj))], [], w)) ?_ ?_ 0 () (by omega) trivial
  · rintro _ _
    show PW _ _ _ _ _ _ (2, [(0, .ref x), (1, .ref p), (2, .int 4)], [], w)
    refine P_iload_n d_Quad_hasCorner_2 rfl ?_
    refine P_iconst (v := 4) d_Quad_hasCorner_3 (by decide) ?_
    refine P_icmp_ge 28 d_Quad_hasCorner_4 (by decide) (fun _ => ?_) (fun h => absurd (by decide) h)
    refine P_iconst (v := 0) d_Quad_hasCorner_28 (by decide) ?_
    exact P_zret d_Quad_hasCorner_29 rfl rfl (le_b rfl) (le_b rfl) ⟨⟨false, rfl⟩, rfl⟩
  · rintro j1 _ hj1 _ kkj1
    show PW _ _ _ _ _ _ (2, [(0, .ref x), (1, .ref p), (2, .int (nI j1))], [], w)
    refine P_iload_n d_Quad_hasCorner_2 rfl ?_
    refine P_iconst (v := 4) d_Quad_hasCorner_3 (by decide) ?_
    refine P_icmp_ge 28 d_Quad_hasCorner_4 (by decide) (fun h => absurd h (nI_geF (a := j1) (b := 4) (by omega) (by omega))) (fun _ => ?_)
    refine P_aload_n d_Quad_hasCorner_7 rfl ?_
    refine P_getf (i := 0) d_Quad_hasCorner_8 ok_Quad (by decide) L_Quad_11 hq.1 rfl ?_
    refine P_iload_n d_Quad_hasCorner_11 rfl ?_
    refine P_aald (j := j1) (q := x + 1 + 1 + j1) d_Quad_hasCorner_12 hq.2.1 rfl (ix_nI (by omega)) (by omega) (rows_at (by omega)) ?_
    refine P_aload_n d_Quad_hasCorner_13 rfl ?_
    obtain ⟨f2, f2e⟩ := hq.2.2 j1 (by omega)
    refine P_callS (M := M_Quad_hasCorner) (pc := 14) (as := [.ref (x + 1 + 1 + j1), .ref p]) d_Quad_hasCorner_14 co_Rows_alike L_Quad_42 sm_Rows_alike (s_Rows_alike (by decide) (by decide) f2e hp) rfl ⟨by decide, by decide⟩ ⟨by decide, by decide⟩ (by exact le_b rfl) ?_ _ rfl
    rintro _ u ⟨⟨v3, rfl⟩, eu⟩
    subst u
    show PW _ _ _ _ _ _ (17, [(0, .ref x), (1, .ref p), (2, .int (nI j1))], [.int (bi v3)], w)
    refine P_if_eq 22 d_Quad_hasCorner_17 (by decide) (fun c4 => ?_) (fun c4 => ?_)
    · refine P_iinc (v := nI (j1 + 1)) d_Quad_hasCorner_22 (by decide) rfl (nI_add j1 1) rfl ?_
      refine P_goto 2 d_Quad_hasCorner_25 (by decide) ?_
      exact kkj1 () trivial
    · refine P_iconst (v := 1) d_Quad_hasCorner_20 (by decide) ?_
      exact P_zret d_Quad_hasCorner_21 rfl rfl (le_b rfl) (le_b rfl) ⟨⟨true, rfl⟩, rfl⟩
theorem s_Quad_isAmid {G : pG} {w : pW} (x1 : Int64) (x2 : Int64) (x3 : Int64) (x4 : Int64) : PM G M_Quad_isAmid 1 0 0 [.long x1, .long x2, .long x3, .long x4] w (fun r w' => (∃ v, r = some (.int (bi v))) ∧ w' = w) := by
  refine PM_of pn_Quad_isAmid (le_b rfl) ?_
  show PW _ _ _ _ _ _ (0, [(0, .long x1), (2, .long x2), (4, .long x3), (6, .long x4)], [], w)
  refine P_lload_n d_Quad_isAmid_0 rfl ?_
  refine P_lload_n d_Quad_isAmid_1 rfl ?_
  refine P_mminlZ d_Quad_isAmid_2 L_Quad_50 st_minl in_Math cd_minl ⟨by decide, by decide, by decide, by decide⟩ (by exact le_b rfl) (fun zz1 => ?_)
  show PW _ _ _ _ _ _ (5, [(0, .long x1), (2, .long x2), (4, .long x3), (6, .long x4)], [.long zz1], w)
  refine P_lload d_Quad_isAmid_5 rfl ?_
  refine P_lmul d_Quad_isAmid_7 ?_
  refine P_lload d_Quad_isAmid_8 rfl ?_
  refine P_lcmp d_Quad_isAmid_10 ?_
  refine P_if_gt 32 d_Quad_isAmid_11 (by decide) (fun c2 => ?_) (fun c2 => ?_)
  · refine P_iconst (v := 0) d_Quad_isAmid_32 (by decide) ?_
    exact P_zret d_Quad_isAmid_33 rfl rfl (le_b rfl) (le_b rfl) ⟨⟨false, rfl⟩, rfl⟩
  · refine P_lload d_Quad_isAmid_14 rfl ?_
    refine P_lload_n d_Quad_isAmid_16 rfl ?_
    refine P_lload_n d_Quad_isAmid_17 rfl ?_
    refine P_mmaxlZ d_Quad_isAmid_18 L_Quad_56 st_max in_Math cd_max ⟨by decide, by decide, by decide, by decide⟩ (by exact le_b rfl) (fun zz3 => ?_)
    show PW _ _ _ _ _ _ (21, [(0, .long x1), (2, .long x2), (4, .long x3), (6, .long x4)], [.long zz3, .long x3], w)
    refine P_lload d_Quad_isAmid_21 rfl ?_
    refine P_lmul d_Quad_isAmid_23 ?_
    refine P_lcmp d_Quad_isAmid_24 ?_
    refine P_if_gt 32 d_Quad_isAmid_25 (by decide) (fun c4 => ?_) (fun c4 => ?_)
    · refine P_iconst (v := 0) d_Quad_isAmid_32 (by decide) ?_
      exact P_zret d_Quad_isAmid_33 rfl rfl (le_b rfl) (le_b rfl) ⟨⟨false, rfl⟩, rfl⟩
    · refine P_iconst (v := 1) d_Quad_isAmid_28 (by decide) ?_
      refine P_goto 33 d_Quad_isAmid_29 (by decide) ?_
      exact P_zret d_Quad_isAmid_33 rfl rfl (le_b rfl) (le_b rfl) ⟨⟨true, rfl⟩, rfl⟩
theorem s_Quad_hasOnSide {G : pG} {w : pW} {x : Nat} (hq : QuadS w x) {p : Nat} {fp : Nat → Int64} (hp : w.2 p = .inl (1, 3, .inr (.inl fp))) : PM G M_Quad_hasOnSide 2 0 0 [.ref x, .ref p] w (fun r w' => (∃ v, r = some (.int (bi v))) ∧ w' = w) := by
  refine PM_of pn_Quad_hasOnSide (le_b rfl) ?_
  show PW _ _ _ _ _ _ (0, [(0, .ref x), (1, .ref p)], [], w)
  refine P_iconst (v := 0) d_Quad_hasOnSide_0 (by decide) ?_
  refine P_istore_n d_Quad_hasOnSide_1 (by decide) rfl ?_
  refine PW_ind (σ := Unit) (4) (fun jj ss => True) (fun jj ss => (2, [(0, .ref x), (1, .ref p), (2, .int (nI jj))], [], w)) ?_ ?_ 0 () (by omega) trivial
  · rintro _ _
    show PW _ _ _ _ _ _ (2, [(0, .ref x), (1, .ref p), (2, .int 4)], [], w)
    refine P_iload_n d_Quad_hasOnSide_2 rfl ?_
    refine P_iconst (v := 4) d_Quad_hasOnSide_3 (by decide) ?_
    refine P_icmp_ge 84 d_Quad_hasOnSide_4 (by decide) (fun _ => ?_) (fun h => absurd (by decide) h)
    refine P_iconst (v := 0) d_Quad_hasOnSide_84 (by decide) ?_
    exact P_zret d_Quad_hasOnSide_85 rfl rfl (le_b rfl) (le_b rfl) ⟨⟨false, rfl⟩, rfl⟩
  · rintro j1 _ hj1 _ kkj1
    show PW _ _ _ _ _ _ (2, [(0, .ref x), (1, .ref p), (2, .int (nI j1))], [], w)
    refine P_iload_n d_Quad_hasOnSide_2 rfl ?_
    refine P_iconst (v := 4) d_Quad_hasOnSide_3 (by decide) ?_
    refine P_icmp_ge 84 d_Quad_hasOnSide_4 (by decide) (fun h => absurd h (nI_geF (a := j1) (b := 4) (by omega) (by omega))) (fun _ => ?_)
    refine P_aload_n d_Quad_hasOnSide_7 rfl ?_
    refine P_getf (i := 0) d_Quad_hasOnSide_8 ok_Quad (by decide) L_Quad_11 hq.1 rfl ?_
    refine P_iload_n d_Quad_hasOnSide_11 rfl ?_
    refine P_aald (j := j1) (q := x + 1 + 1 + j1) d_Quad_hasOnSide_12 hq.2.1 rfl (ix_nI (by omega)) (by omega) (rows_at (by omega)) ?_
    refine P_astore_n d_Quad_hasOnSide_13 (by decide) rfl ?_
    refine P_aload_n d_Quad_hasOnSide_14 rfl ?_
    refine P_getf (i := 0) d_Quad_hasOnSide_15 ok_Quad (by decide) L_Quad_11 hq.1 rfl ?_
    refine P_iload_n d_Quad_hasOnSide_18 rfl ?_
    refine P_iconst (v := 1) d_Quad_hasOnSide_19 (by decide) ?_
    refine P_iaddN (a := j1) (b := 1) d_Quad_hasOnSide_20 ?_
    show PW _ _ _ _ _ _ (21, [(0, .ref x), (1, .ref p), (2, .int (nI j1)), (3, .ref (x + 1 + 1 + j1))], [.int (nI (j1 + 1)), .ref (x + 1)], w)
    refine P_iconst (v := 3) d_Quad_hasOnSide_21 (by decide) ?_
    refine P_iandN (a := (j1 + 1)) (m := 3) 2 d_Quad_hasOnSide_22 (by omega) (by decide) ?_
    show PW _ _ _ _ _ _ (23, [(0, .ref x), (1, .ref p), (2, .int (nI j1)), (3, .ref (x + 1 + 1 + j1))], [.int (nI ((j1 + 1) % 4)), .ref (x + 1)], w)
    refine P_aald (j := (j1 + 1) % 4) (q := x + 1 + 1 + ((j1 + 1) % 4)) d_Quad_hasOnSide_23 hq.2.1 rfl (ix_nI (by omega)) (by omega) (rows_at (by omega)) ?_
    refine P_astore d_Quad_hasOnSide_24 (by decide) rfl ?_
    refine P_aload_n d_Quad_hasOnSide_26 rfl ?_
    refine P_aload d_Quad_hasOnSide_27 rfl ?_
    refine P_aload_n d_Quad_hasOnSide_29 rfl ?_
    obtain ⟨f2, f2e⟩ := hq.2.2 j1 (by omega)
    obtain ⟨f3, f3e⟩ := hq.2.2 ((j1 + 1) % 4) (by omega)
    refine P_callS (M := M_Quad_hasOnSide) (pc := 30) (as := [.ref (x + 1 + 1 + j1), .ref (x + 1 + 1 + ((j1 + 1) % 4)), .ref p]) d_Quad_hasOnSide_30 co_Rows_determinant L_Quad_16 sm_Rows_determinant (s_Rows_determinant f2e f3e hp) rfl ⟨by decide, by decide⟩ ⟨by decide, by decide⟩ (by exact le_b rfl) ?_ _ rfl
    rintro _ u ⟨⟨v4, rfl⟩, eu⟩
    subst u
    show PW _ _ _ _ _ _ (33, [(0, .ref x), (1, .ref p), (2, .int (nI j1)), (3, .ref (x + 1 + 1 + j1)), (4, .ref (x + 1 + 1 + ((j1 + 1) % 4)))], [.long v4], w)
    refine P_lconst (v := 0) d_Quad_hasOnSide_33 (by decide) ?_
    refine P_lcmp d_Quad_hasOnSide_34 ?_
    refine P_if_ne 78 d_Quad_hasOnSide_35 (by decide) (fun c5 => ?_) (fun c5 => ?_)
    · refine P_iinc (v := nI (j1 + 1)) d_Quad_hasOnSide_78 (by decide) rfl (nI_add j1 1) rfl ?_
      refine P_goto 2 d_Quad_hasOnSide_81 (by decide) ?_
      show PW _ _ _ _ _ _ (2, [(0, .ref x), (1, .ref p), (2, .int (nI (j1 + 1))), (3, .ref (x + 1 + 1 + j1)), (4, .ref (x + 1 + 1 + ((j1 + 1) % 4)))], [], w)
      refine PW.drop (lv' := [(0, .ref x), (1, .ref p), (2, .int (nI (j1 + 1)))]) (by simp) ?_
      exact kkj1 () trivial
    · refine P_aload_n d_Quad_hasOnSide_38 rfl ?_
      refine P_iconst (v := 0) d_Quad_hasOnSide_39 (by decide) ?_
      refine P_lald (j := 0) d_Quad_hasOnSide_40 f2e ⟨by decide, by decide⟩ (by decide) ?_
      refine P_aload d_Quad_hasOnSide_41 rfl ?_
      refine P_iconst (v := 0) d_Quad_hasOnSide_43 (by decide) ?_
      refine P_lald (j := 0) d_Quad_hasOnSide_44 f3e ⟨by decide, by decide⟩ (by decide) ?_
      refine P_aload_n d_Quad_hasOnSide_45 rfl ?_
      refine P_iconst (v := 0) d_Quad_hasOnSide_46 (by decide) ?_
      refine P_lald (j := 0) d_Quad_hasOnSide_47 hp ⟨by decide, by decide⟩ (by decide) ?_
      refine P_aload_n d_Quad_hasOnSide_48 rfl ?_
      refine P_iconst (v := 2) d_Quad_hasOnSide_49 (by decide) ?_
      refine P_lald (j := 2) d_Quad_hasOnSide_50 hp ⟨by decide, by decide⟩ (by decide) ?_
      refine P_callS (M := M_Quad_hasOnSide) (pc := 51) (as := [.long (f2 0), .long (f3 0), .long (fp 0), .long (fp 2)]) d_Quad_hasOnSide_51 co_Quad_isAmid L_Quad_46 sm_Quad_isAmid (s_Quad_isAmid (f2 0) (f3 0) (fp 0) (fp 2)) rfl ⟨by decide, by decide⟩ ⟨by decide, by decide⟩ (by exact le_b rfl) ?_ _ rfl
      rintro _ u ⟨⟨v6, rfl⟩, eu⟩
      subst u
      show PW _ _ _ _ _ _ (54, [(0, .ref x), (1, .ref p), (2, .int (nI j1)), (3, .ref (x + 1 + 1 + j1)), (4, .ref (x + 1 + 1 + ((j1 + 1) % 4)))], [.int (bi v6)], w)
      refine P_if_eq 78 d_Quad_hasOnSide_54 (by decide) (fun c7 => ?_) (fun c7 => ?_)
      · refine P_iinc (v := nI (j1 + 1)) d_Quad_hasOnSide_78 (by decide) rfl (nI_add j1 1) rfl ?_
        refine P_goto 2 d_Quad_hasOnSide_81 (by decide) ?_
        show PW _ _ _ _ _ _ (2, [(0, .ref x), (1, .ref p), (2, .int (nI (j1 + 1))), (3, .ref (x + 1 + 1 + j1)), (4, .ref (x + 1 + 1 + ((j1 + 1) % 4)))], [], w)
        refine PW.drop (lv' := [(0, .ref x), (1, .ref p), (2, .int (nI (j1 + 1)))]) (by simp) ?_
        exact kkj1 () trivial
      · refine P_aload_n d_Quad_hasOnSide_57 rfl ?_
        refine P_iconst (v := 1) d_Quad_hasOnSide_58 (by decide) ?_
        refine P_lald (j := 1) d_Quad_hasOnSide_59 f2e ⟨by decide, by decide⟩ (by decide) ?_
        refine P_aload d_Quad_hasOnSide_60 rfl ?_
        refine P_iconst (v := 1) d_Quad_hasOnSide_62 (by decide) ?_
        refine P_lald (j := 1) d_Quad_hasOnSide_63 f3e ⟨by decide, by decide⟩ (by decide) ?_
        refine P_aload_n d_Quad_hasOnSide_64 rfl ?_
        refine P_iconst (v := 1) d_Quad_hasOnSide_65 (by decide) ?_
        refine P_lald (j := 1) d_Quad_hasOnSide_66 hp ⟨by decide, by decide⟩ (by decide) ?_
        refine P_aload_n d_Quad_hasOnSide_67 rfl ?_
        refine P_iconst (v := 2) d_Quad_hasOnSide_68 (by decide) ?_
        refine P_lald (j := 2) d_Quad_hasOnSide_69 hp ⟨by decide, by decide⟩ (by decide) ?_
        refine P_callS (M := M_Quad_hasOnSide) (pc := 70) (as := [.long (f2 1), .long (f3 1), .long (fp 1), .long (fp 2)]) d_Quad_hasOnSide_70 co_Quad_isAmid L_Quad_46 sm_Quad_isAmid (s_Quad_isAmid (f2 1) (f3 1) (fp 1) (fp 2)) rfl ⟨by decide, by decide⟩ ⟨by decide, by decide⟩ (by exact le_b rfl) ?_ _ rfl
        rintro _ u ⟨⟨v8, rfl⟩, eu⟩
        subst u
        show PW _ _ _ _ _ _ (73, [(0, .ref x), (1, .ref p), (2, .int (nI j1)), (3, .ref (x + 1 + 1 + j1)), (4, .ref (x + 1 + 1 + ((j1 + 1) % 4)))], [.int (bi v8)], w)
        refine P_if_eq 78 d_Quad_hasOnSide_73 (by decide) (fun c9 => ?_) (fun c9 => ?_)
        · refine P_iinc (v := nI (j1 + 1)) d_Quad_hasOnSide_78 (by decide) rfl (nI_add j1 1) rfl ?_
          refine P_goto 2 d_Quad_hasOnSide_81 (by decide) ?_
          show PW _ _ _ _ _ _ (2, [(0, .ref x), (1, .ref p), (2, .int (nI (j1 + 1))), (3, .ref (x + 1 + 1 + j1)), (4, .ref (x + 1 + 1 + ((j1 + 1) % 4)))], [], w)
          refine PW.drop (lv' := [(0, .ref x), (1, .ref p), (2, .int (nI (j1 + 1)))]) (by simp) ?_
          exact kkj1 () trivial
        · refine P_iconst (v := 1) d_Quad_hasOnSide_76 (by decide) ?_
          exact P_zret d_Quad_hasOnSide_77 rfl rfl (le_b rfl) (le_b rfl) ⟨⟨true, rfl⟩, rfl⟩
theorem s_Quad_surrounds {G : pG} {w : pW} {x : Nat} (hq : QuadS w x) {p : Nat} {fp : Nat → Int64} (hp : w.2 p = .inl (1, 3, .inr (.inl fp))) : PM G M_Quad_surrounds 1 0 0 [.ref x, .ref p] w (fun r w' => (∃ v, r = some (.int (bi v))) ∧ w' = w) := by
  refine PM_of pn_Quad_surrounds (le_b rfl) ?_
  show PW _ _ _ _ _ _ (0, [(0, .ref x), (1, .ref p)], [], w)
  refine P_iconst (v := 0) d_Quad_surrounds_0 (by decide) ?_
  refine P_istore_n d_Quad_surrounds_1 (by decide) rfl ?_
  refine P_iconst (v := 0) d_Quad_surrounds_2 (by decide) ?_
  refine P_istore_n d_Quad_surrounds_3 (by decide) rfl ?_
  refine PW_ind (σ := Bool) (4) (fun jj ss => True) (fun jj ss => (4, [(0, .ref x), (1, .ref p), (2, .int (bi ss)), (3, .int (nI jj))], [], w)) ?_ ?_ 0 (false) (by omega) trivial
  · rintro j1_2 _
    show PW _ _ _ _ _ _ (4, [(0, .ref x), (1, .ref p), (2, .int (bi j1_2)), (3, .int 4)], [], w)
    refine P_iload_n d_Quad_surrounds_4 rfl ?_
    refine P_iconst (v := 4) d_Quad_surrounds_5 (by decide) ?_
    refine P_icmp_ge 119 d_Quad_surrounds_6 (by decide) (fun _ => ?_) (fun h => absurd (by decide) h)
    refine P_iload_n d_Quad_surrounds_119 rfl ?_
    exact P_zret d_Quad_surrounds_120 rfl (nar_bi _) (le_b rfl) (le_b rfl) ⟨⟨_, rfl⟩, rfl⟩
  · rintro j1 j1_2 hj1 _ kkj1
    show PW _ _ _ _ _ _ (4, [(0, .ref x), (1, .ref p), (2, .int (bi j1_2)), (3, .int (nI j1))], [], w)
    refine P_iload_n d_Quad_surrounds_4 rfl ?_
    refine P_iconst (v := 4) d_Quad_surrounds_5 (by decide) ?_
    refine P_icmp_ge 119 d_Quad_surrounds_6 (by decide) (fun h => absurd h (nI_geF (a := j1) (b := 4) (by omega) (by omega))) (fun _ => ?_)
    refine P_aload_n d_Quad_surrounds_9 rfl ?_
    refine P_getf (i := 0) d_Quad_surrounds_10 ok_Quad (by decide) L_Quad_11 hq.1 rfl ?_
    refine P_iload_n d_Quad_surrounds_13 rfl ?_
    refine P_aald (j := j1) (q := x + 1 + 1 + j1) d_Quad_surrounds_14 hq.2.1 rfl (ix_nI (by omega)) (by omega) (rows_at (by omega)) ?_
    refine P_astore d_Quad_surrounds_15 (by decide) rfl ?_
    refine P_aload_n d_Quad_surrounds_17 rfl ?_
    refine P_getf (i := 0) d_Quad_surrounds_18 ok_Quad (by decide) L_Quad_11 hq.1 rfl ?_
    refine P_iload_n d_Quad_surrounds_21 rfl ?_
    refine P_iconst (v := 1) d_Quad_surrounds_22 (by decide) ?_
    refine P_iaddN (a := j1) (b := 1) d_Quad_surrounds_23 ?_
    show PW _ _ _ _ _ _ (24, [(0, .ref x), (1, .ref p), (2, .int (bi j1_2)), (3, .int (nI j1)), (4, .ref (x + 1 + 1 + j1))], [.int (nI (j1 + 1)), .ref (x + 1)], w)
    refine P_iconst (v := 3) d_Quad_surrounds_24 (by decide) ?_
    refine P_iandN (a := (j1 + 1)) (m := 3) 2 d_Quad_surrounds_25 (by omega) (by decide) ?_
    show PW _ _ _ _ _ _ (26, [(0, .ref x), (1, .ref p), (2, .int (bi j1_2)), (3, .int (nI j1)), (4, .ref (x + 1 + 1 + j1))], [.int (nI ((j1 + 1) % 4)), .ref (x + 1)], w)
    refine P_aald (j := (j1 + 1) % 4) (q := x + 1 + 1 + ((j1 + 1) % 4)) d_Quad_surrounds_26 hq.2.1 rfl (ix_nI (by omega)) (by omega) (rows_at (by omega)) ?_
    refine P_astore d_Quad_surrounds_27 (by decide) rfl ?_
    refine P_aload d_Quad_surrounds_29 rfl ?_
    refine P_iconst (v := 1) d_Quad_surrounds_31 (by decide) ?_
    obtain ⟨f2, f2e⟩ := hq.2.2 j1 (by omega)
    refine P_lald (j := 1) d_Quad_surrounds_32 f2e ⟨by decide, by decide⟩ (by decide) ?_
    refine P_aload_n d_Quad_surrounds_33 rfl ?_
    refine P_iconst (v := 2) d_Quad_surrounds_34 (by decide) ?_
    refine P_lald (j := 2) d_Quad_surrounds_35 hp ⟨by decide, by decide⟩ (by decide) ?_
    refine P_lmul d_Quad_surrounds_36 ?_
    refine P_aload_n d_Quad_surrounds_37 rfl ?_
    refine P_iconst (v := 1) d_Quad_surrounds_38 (by decide) ?_
    refine P_lald (j := 1) d_Quad_surrounds_39 hp ⟨by decide, by decide⟩ (by decide) ?_
    refine P_lcmp d_Quad_surrounds_40 ?_
    refine P_if_le 48 d_Quad_surrounds_41 (by decide) (fun c3 => ?_) (fun c3 => ?_)
    · refine P_iconst (v := 0) d_Quad_surrounds_48 (by decide) ?_
      refine P_istore d_Quad_surrounds_49 (by decide) rfl ?_
      refine P_aload d_Quad_surrounds_51 rfl ?_
      refine P_iconst (v := 1) d_Quad_surrounds_53 (by decide) ?_
      obtain ⟨f4, f4e⟩ := hq.2.2 ((j1 + 1) % 4) (by omega)
      refine P_lald (j := 1) d_Quad_surrounds_54 f4e ⟨by decide, by decide⟩ (by decide) ?_
      refine P_aload_n d_Quad_surrounds_55 rfl ?_
      refine P_iconst (v := 2) d_Quad_surrounds_56 (by decide) ?_
      refine P_lald (j := 2) d_Quad_surrounds_57 hp ⟨by decide, by decide⟩ (by decide) ?_
      refine P_lmul d_Quad_surrounds_58 ?_
      refine P_aload_n d_Quad_surrounds_59 rfl ?_
      refine P_iconst (v := 1) d_Quad_surrounds_60 (by decide) ?_
      refine P_lald (j := 1) d_Quad_surrounds_61 hp ⟨by decide, by decide⟩ (by decide) ?_
      refine P_lcmp d_Quad_surrounds_62 ?_
      refine P_if_le 70 d_Quad_surrounds_63 (by decide) (fun c5 => ?_) (fun c5 => ?_)
      · refine P_iconst (v := 0) d_Quad_surrounds_70 (by decide) ?_
        refine P_istore d_Quad_surrounds_71 (by decide) rfl ?_
        refine P_iload d_Quad_surrounds_73 rfl ?_
        refine P_iload d_Quad_surrounds_75 rfl ?_
        refine P_icmp_eq 113 d_Quad_surrounds_77 (by decide) (fun _ => ?_) (fun h => absurd (by decide) h)
        refine P_iinc (v := nI (j1 + 1)) d_Quad_surrounds_113 (by decide) rfl (nI_add j1 1) rfl ?_
        refine P_goto 4 d_Quad_surrounds_116 (by decide) ?_
        show PW _ _ _ _ _ _ (4, [(0, .ref x), (1, .ref p), (2, .int (bi j1_2)), (3, .int (nI (j1 + 1))), (4, .ref (x + 1 + 1 + j1)), (5, .ref (x + 1 + 1 + ((j1 + 1) % 4))), (6, .int 0), (7, .int 0)], [], w)
        refine PW.drop (lv' := [(0, .ref x), (1, .ref p), (2, .int (bi j1_2)), (3, .int (nI (j1 + 1)))]) (by simp) ?_
        exact kkj1 (j1_2) trivial
      · refine P_iconst (v := 1) d_Quad_surrounds_66 (by decide) ?_
        refine P_goto 71 d_Quad_surrounds_67 (by decide) ?_
        refine P_istore d_Quad_surrounds_71 (by decide) rfl ?_
        refine P_iload d_Quad_surrounds_73 rfl ?_
        refine P_iload d_Quad_surrounds_75 rfl ?_
        refine P_icmp_eq 113 d_Quad_surrounds_77 (by decide) (fun h => absurd h (by decide)) (fun _ => ?_)
        refine P_aload d_Quad_surrounds_80 rfl ?_
        refine P_aload d_Quad_surrounds_82 rfl ?_
        refine P_aload_n d_Quad_surrounds_84 rfl ?_
        refine P_callS (M := M_Quad_surrounds) (pc := 85) (as := [.ref (x + 1 + 1 + j1), .ref (x + 1 + 1 + ((j1 + 1) % 4)), .ref p]) d_Quad_surrounds_85 co_Rows_determinant L_Quad_16 sm_Rows_determinant (s_Rows_determinant f2e f4e hp) rfl ⟨by decide, by decide⟩ ⟨by decide, by decide⟩ (by exact le_b rfl) ?_ _ rfl
        rintro _ u ⟨⟨v6, rfl⟩, eu⟩
        subst u
        show PW _ _ _ _ _ _ (88, [(0, .ref x), (1, .ref p), (2, .int (bi j1_2)), (3, .int (nI j1)), (4, .ref (x + 1 + 1 + j1)), (5, .ref (x + 1 + 1 + ((j1 + 1) % 4))), (6, .int 0), (7, .int 1)], [.long v6], w)
        refine P_lconst (v := 0) d_Quad_surrounds_88 (by decide) ?_
        refine P_lcmp d_Quad_surrounds_89 ?_
        refine P_if_le 97 d_Quad_surrounds_90 (by decide) (fun c7 => ?_) (fun c7 => ?_)
        · refine P_iconst (v := 0) d_Quad_surrounds_97 (by decide) ?_
          refine P_iload d_Quad_surrounds_98 rfl ?_
          refine P_icmp_ne 113 d_Quad_surrounds_100 (by decide) (fun _ => ?_) (fun h => absurd h (by decide))
          refine P_iinc (v := nI (j1 + 1)) d_Quad_surrounds_113 (by decide) rfl (nI_add j1 1) rfl ?_
          refine P_goto 4 d_Quad_surrounds_116 (by decide) ?_
          show PW _ _ _ _ _ _ (4, [(0, .ref x), (1, .ref p), (2, .int (bi j1_2)), (3, .int (nI (j1 + 1))), (4, .ref (x + 1 + 1 + j1)), (5, .ref (x + 1 + 1 + ((j1 + 1) % 4))), (6, .int 0), (7, .int 1)], [], w)
          refine PW.drop (lv' := [(0, .ref x), (1, .ref p), (2, .int (bi j1_2)), (3, .int (nI (j1 + 1)))]) (by simp) ?_
          exact kkj1 (j1_2) trivial
        · refine P_iconst (v := 1) d_Quad_surrounds_93 (by decide) ?_
          refine P_goto 98 d_Quad_surrounds_94 (by decide) ?_
          refine P_iload d_Quad_surrounds_98 rfl ?_
          refine P_icmp_ne 113 d_Quad_surrounds_100 (by decide) (fun h => absurd (by decide) h) (fun _ => ?_)
          refine P_iload_n d_Quad_surrounds_103 rfl ?_
          refine P_if_ne 111 d_Quad_surrounds_104 (by decide) (fun c8 => ?_) (fun c8 => ?_)
          · refine P_iconst (v := 0) d_Quad_surrounds_111 (by decide) ?_
            refine P_istore_n d_Quad_surrounds_112 (by decide) rfl ?_
            refine P_iinc (v := nI (j1 + 1)) d_Quad_surrounds_113 (by decide) rfl (nI_add j1 1) rfl ?_
            refine P_goto 4 d_Quad_surrounds_116 (by decide) ?_
            show PW _ _ _ _ _ _ (4, [(0, .ref x), (1, .ref p), (2, .int 0), (3, .int (nI (j1 + 1))), (4, .ref (x + 1 + 1 + j1)), (5, .ref (x + 1 + 1 + ((j1 + 1) % 4))), (6, .int 0), (7, .int 1)], [], w)
            refine PW.drop (lv' := [(0, .ref x), (1, .ref p), (2, .int 0), (3, .int (nI (j1 + 1)))]) (by simp) ?_
            exact kkj1 (false) trivial
          · refine P_iconst (v := 1) d_Quad_surrounds_107 (by decide) ?_
            refine P_goto 112 d_Quad_surrounds_108 (by decide) ?_
            refine P_istore_n d_Quad_surrounds_112 (by decide) rfl ?_
            refine P_iinc (v := nI (j1 + 1)) d_Quad_surrounds_113 (by decide) rfl (nI_add j1 1) rfl ?_
            refine P_goto 4 d_Quad_surrounds_116 (by decide) ?_
            show PW _ _ _ _ _ _ (4, [(0, .ref x), (1, .ref p), (2, .int 1), (3, .int (nI (j1 + 1))), (4, .ref (x + 1 + 1 + j1)), (5, .ref (x + 1 + 1 + ((j1 + 1) % 4))), (6, .int 0), (7, .int 1)], [], w)
            refine PW.drop (lv' := [(0, .ref x), (1, .ref p), (2, .int 1), (3, .int (nI (j1 + 1)))]) (by simp) ?_
            exact kkj1 (true) trivial
    · refine P_iconst (v := 1) d_Quad_surrounds_44 (by decide) ?_
      refine P_goto 49 d_Quad_surrounds_45 (by decide) ?_
      refine P_istore d_Quad_surrounds_49 (by decide) rfl ?_
      refine P_aload d_Quad_surrounds_51 rfl ?_
      refine P_iconst (v := 1) d_Quad_surrounds_53 (by decide) ?_
      obtain ⟨f9, f9e⟩ := hq.2.2 ((j1 + 1) % 4) (by omega)
      refine P_lald (j := 1) d_Quad_surrounds_54 f9e ⟨by decide, by decide⟩ (by decide) ?_
      refine P_aload_n d_Quad_surrounds_55 rfl ?_
      refine P_iconst (v := 2) d_Quad_surrounds_56 (by decide) ?_
      refine P_lald (j := 2) d_Quad_surrounds_57 hp ⟨by decide, by decide⟩ (by decide) ?_
      refine P_lmul d_Quad_surrounds_58 ?_
      refine P_aload_n d_Quad_surrounds_59 rfl ?_
      refine P_iconst (v := 1) d_Quad_surrounds_60 (by decide) ?_
      refine P_lald (j := 1) d_Quad_surrounds_61 hp ⟨by decide, by decide⟩ (by decide) ?_
      refine P_lcmp d_Quad_surrounds_62 ?_
      refine P_if_le 70 d_Quad_surrounds_63 (by decide) (fun c10 => ?_) (fun c10 => ?_)
      · refine P_iconst (v := 0) d_Quad_surrounds_70 (by decide) ?_
        refine P_istore d_Quad_surrounds_71 (by decide) rfl ?_
        refine P_iload d_Quad_surrounds_73 rfl ?_
        refine P_iload d_Quad_surrounds_75 rfl ?_
        refine P_icmp_eq 113 d_Quad_surrounds_77 (by decide) (fun h => absurd h (by decide)) (fun _ => ?_)
        refine P_aload d_Quad_surrounds_80 rfl ?_
        refine P_aload d_Quad_surrounds_82 rfl ?_
        refine P_aload_n d_Quad_surrounds_84 rfl ?_
        refine P_callS (M := M_Quad_surrounds) (pc := 85) (as := [.ref (x + 1 + 1 + j1), .ref (x + 1 + 1 + ((j1 + 1) % 4)), .ref p]) d_Quad_surrounds_85 co_Rows_determinant L_Quad_16 sm_Rows_determinant (s_Rows_determinant f2e f9e hp) rfl ⟨by decide, by decide⟩ ⟨by decide, by decide⟩ (by exact le_b rfl) ?_ _ rfl
        rintro _ u ⟨⟨v11, rfl⟩, eu⟩
        subst u
        show PW _ _ _ _ _ _ (88, [(0, .ref x), (1, .ref p), (2, .int (bi j1_2)), (3, .int (nI j1)), (4, .ref (x + 1 + 1 + j1)), (5, .ref (x + 1 + 1 + ((j1 + 1) % 4))), (6, .int 1), (7, .int 0)], [.long v11], w)
        refine P_lconst (v := 0) d_Quad_surrounds_88 (by decide) ?_
        refine P_lcmp d_Quad_surrounds_89 ?_
        refine P_if_le 97 d_Quad_surrounds_90 (by decide) (fun c12 => ?_) (fun c12 => ?_)
        · refine P_iconst (v := 0) d_Quad_surrounds_97 (by decide) ?_
          refine P_iload d_Quad_surrounds_98 rfl ?_
          refine P_icmp_ne 113 d_Quad_surrounds_100 (by decide) (fun h => absurd (by decide) h) (fun _ => ?_)
          refine P_iload_n d_Quad_surrounds_103 rfl ?_
          refine P_if_ne 111 d_Quad_surrounds_104 (by decide) (fun c13 => ?_) (fun c13 => ?_)
          · refine P_iconst (v := 0) d_Quad_surrounds_111 (by decide) ?_
            refine P_istore_n d_Quad_surrounds_112 (by decide) rfl ?_
            refine P_iinc (v := nI (j1 + 1)) d_Quad_surrounds_113 (by decide) rfl (nI_add j1 1) rfl ?_
            refine P_goto 4 d_Quad_surrounds_116 (by decide) ?_
            show PW _ _ _ _ _ _ (4, [(0, .ref x), (1, .ref p), (2, .int 0), (3, .int (nI (j1 + 1))), (4, .ref (x + 1 + 1 + j1)), (5, .ref (x + 1 + 1 + ((j1 + 1) % 4))), (6, .int 1), (7, .int 0)], [], w)
            refine PW.drop (lv' := [(0, .ref x), (1, .ref p), (2, .int 0), (3, .int (nI (j1 + 1)))]) (by simp) ?_
            exact kkj1 (false) trivial
          · refine P_iconst (v := 1) d_Quad_surrounds_107 (by decide) ?_
            refine P_goto 112 d_Quad_surrounds_108 (by decide) ?_
            refine P_istore_n d_Quad_surrounds_112 (by decide) rfl ?_
            refine P_iinc (v := nI (j1 + 1)) d_Quad_surrounds_113 (by decide) rfl (nI_add j1 1) rfl ?_
            refine P_goto 4 d_Quad_surrounds_116 (by decide) ?_
            show PW _ _ _ _ _ _ (4, [(0, .ref x), (1, .ref p), (2, .int 1), (3, .int (nI (j1 + 1))), (4, .ref (x + 1 + 1 + j1)), (5, .ref (x + 1 + 1 + ((j1 + 1) % 4))), (6, .int 1), (7, .int 0)], [], w)
            refine PW.drop (lv' := [(0, .ref x), (1, .ref p), (2, .int 1), (3, .int (nI (j1 + 1)))]) (by simp) ?_
            exact kkj1 (true) trivial
        · refine P_iconst (v := 1) d_Quad_surrounds_93 (by decide) ?_
          refine P_goto 98 d_Quad_surrounds_94 (by decide) ?_
          refine P_iload d_Quad_surrounds_98 rfl ?_
          refine P_icmp_ne 113 d_Quad_surrounds_100 (by decide) (fun _ => ?_) (fun h => absurd h (by decide))
          refine P_iinc (v := nI (j1 + 1)) d_Quad_surrounds_113 (by decide) rfl (nI_add j1 1) rfl ?_
          refine P_goto 4 d_Quad_surrounds_116 (by decide) ?_
          show PW _ _ _ _ _ _ (4, [(0, .ref x), (1, .ref p), (2, .int (bi j1_2)), (3, .int (nI (j1 + 1))), (4, .ref (x + 1 + 1 + j1)), (5, .ref (x + 1 + 1 + ((j1 + 1) % 4))), (6, .int 1), (7, .int 0)], [], w)
          refine PW.drop (lv' := [(0, .ref x), (1, .ref p), (2, .int (bi j1_2)), (3, .int (nI (j1 + 1)))]) (by simp) ?_
          exact kkj1 (j1_2) trivial
      · refine P_iconst (v := 1) d_Quad_surrounds_66 (by decide) ?_
        refine P_goto 71 d_Quad_surrounds_67 (by decide) ?_
        refine P_istore d_Quad_surrounds_71 (by decide) rfl ?_
        refine P_iload d_Quad_surrounds_73 rfl ?_
        refine P_iload d_Quad_surrounds_75 rfl ?_
        refine P_icmp_eq 113 d_Quad_surrounds_77 (by decide) (fun _ => ?_) (fun h => absurd (by decide) h)
        refine P_iinc (v := nI (j1 + 1)) d_Quad_surrounds_113 (by decide) rfl (nI_add j1 1) rfl ?_
        refine P_goto 4 d_Quad_surrounds_116 (by decide) ?_
        show PW _ _ _ _ _ _ (4, [(0, .ref x), (1, .ref p), (2, .int (bi j1_2)), (3, .int (nI (j1 + 1))), (4, .ref (x + 1 + 1 + j1)), (5, .ref (x + 1 + 1 + ((j1 + 1) % 4))), (6, .int 1), (7, .int 1)], [], w)
        refine PW.drop (lv' := [(0, .ref x), (1, .ref p), (2, .int (bi j1_2)), (3, .int (nI (j1 + 1)))]) (by simp) ?_
        exact kkj1 (j1_2) trivial
theorem s_Quad_overlaps {G : pG} {w : pW} (x1 : Int64) (x2 : Int64) (x3 : Int64) (x4 : Int64) : PM G M_Quad_overlaps 1 0 0 [.long x1, .long x2, .long x3, .long x4] w (fun r w' => (∃ v, r = some (.int (bi v))) ∧ w' = w) := by
  refine PM_of pn_Quad_overlaps (le_b rfl) ?_
  show PW _ _ _ _ _ _ (0, [(0, .long x1), (2, .long x2), (4, .long x3), (6, .long x4)], [], w)
  refine P_lload_n d_Quad_overlaps_0 rfl ?_
  refine P_lload_n d_Quad_overlaps_1 rfl ?_
  refine P_mminlZ d_Quad_overlaps_2 L_Quad_50 st_minl in_Math cd_minl ⟨by decide, by decide, by decide, by decide⟩ (by exact le_b rfl) (fun zz1 => ?_)
  show PW _ _ _ _ _ _ (5, [(0, .long x1), (2, .long x2), (4, .long x3), (6, .long x4)], [.long zz1], w)
  refine P_lload d_Quad_overlaps_5 rfl ?_
  refine P_lload d_Quad_overlaps_7 rfl ?_
  refine P_mminlZ d_Quad_overlaps_9 L_Quad_50 st_minl in_Math cd_minl ⟨by decide, by decide, by decide, by decide⟩ (by exact le_b rfl) (fun zz2 => ?_)
  show PW _ _ _ _ _ _ (12, [(0, .long x1), (2, .long x2), (4, .long x3), (6, .long x4)], [.long zz2, .long zz1], w)
  refine P_mmaxlZ d_Quad_overlaps_12 L_Quad_56 st_max in_Math cd_max ⟨by decide, by decide, by decide, by decide⟩ (by exact le_b rfl) (fun zz3 => ?_)
  show PW _ _ _ _ _ _ (15, [(0, .long x1), (2, .long x2), (4, .long x3), (6, .long x4)], [.long zz3], w)
  refine P_lload_n d_Quad_overlaps_15 rfl ?_
  refine P_lload_n d_Quad_overlaps_16 rfl ?_
  refine P_mmaxlZ d_Quad_overlaps_17 L_Quad_56 st_max in_Math cd_max ⟨by decide, by decide, by decide, by decide⟩ (by exact le_b rfl) (fun zz4 => ?_)
  show PW _ _ _ _ _ _ (20, [(0, .long x1), (2, .long x2), (4, .long x3), (6, .long x4)], [.long zz4, .long zz3], w)
  refine P_lload d_Quad_overlaps_20 rfl ?_
  refine P_lload d_Quad_overlaps_22 rfl ?_
  refine P_mmaxlZ d_Quad_overlaps_24 L_Quad_56 st_max in_Math cd_max ⟨by decide, by decide, by decide, by decide⟩ (by exact le_b rfl) (fun zz5 => ?_)
  show PW _ _ _ _ _ _ (27, [(0, .long x1), (2, .long x2), (4, .long x3), (6, .long x4)], [.long zz5, .long zz4, .long zz3], w)
  refine P_mminlZ d_Quad_overlaps_27 L_Quad_50 st_minl in_Math cd_minl ⟨by decide, by decide, by decide, by decide⟩ (by exact le_b rfl) (fun zz6 => ?_)
  show PW _ _ _ _ _ _ (30, [(0, .long x1), (2, .long x2), (4, .long x3), (6, .long x4)], [.long zz6, .long zz3], w)
  refine P_lcmp d_Quad_overlaps_30 ?_
  refine P_if_gt 38 d_Quad_overlaps_31 (by decide) (fun c7 => ?_) (fun c7 => ?_)
  · refine P_iconst (v := 0) d_Quad_overlaps_38 (by decide) ?_
    exact P_zret d_Quad_overlaps_39 rfl rfl (le_b rfl) (le_b rfl) ⟨⟨false, rfl⟩, rfl⟩
  · refine P_iconst (v := 1) d_Quad_overlaps_34 (by decide) ?_
    refine P_goto 39 d_Quad_overlaps_35 (by decide) ?_
    exact P_zret d_Quad_overlaps_39 rfl rfl (le_b rfl) (le_b rfl) ⟨⟨true, rfl⟩, rfl⟩
theorem s_Quad_touches {G : pG} {w : pW} {x : Nat} (hq : QuadS w x) (k : Nat) (hk : k < 8) {y : Nat} (hqy : QuadS w y) (i : Nat) (hi : i < 8) : PM G M_Quad_touches 2 0 0 [.ref x, .int (nI k), .ref y, .int (nI i)] w (fun r w' => (∃ v, r = some (.int (bi v))) ∧ w' = w) := by
  refine PM_of pn_Quad_touches (le_b rfl) ?_
  show PW _ _ _ _ _ _ (0, [(0, .ref x), (1, .int (nI k)), (2, .ref y), (3, .int (nI i))], [], w)
  refine P_aload_n d_Quad_touches_0 rfl ?_
  refine P_getf (i := 0) d_Quad_touches_1 ok_Quad (by decide) L_Quad_11 hq.1 rfl ?_
  refine P_iload_n d_Quad_touches_4 rfl ?_
  refine P_iconst (v := 3) d_Quad_touches_5 (by decide) ?_
  refine P_iandN (a := k) (m := 3) 2 d_Quad_touches_6 (by omega) (by decide) ?_
  show PW _ _ _ _ _ _ (7, [(0, .ref x), (1, .int (nI k)), (2, .ref y), (3, .int (nI i))], [.int (nI (k % 4)), .ref (x + 1)], w)
  refine P_aald (j := k % 4) (q := x + 1 + 1 + (k % 4)) d_Quad_touches_7 hq.2.1 rfl (ix_nI (by omega)) (by omega) (rows_at (by omega)) ?_
  refine P_astore d_Quad_touches_8 (by decide) rfl ?_
  refine P_aload_n d_Quad_touches_10 rfl ?_
  refine P_getf (i := 0) d_Quad_touches_11 ok_Quad (by decide) L_Quad_11 hq.1 rfl ?_
  refine P_iload_n d_Quad_touches_14 rfl ?_
  refine P_iconst (v := 1) d_Quad_touches_15 (by decide) ?_
  refine P_iaddN (a := k) (b := 1) d_Quad_touches_16 ?_
  show PW _ _ _ _ _ _ (17, [(0, .ref x), (1, .int (nI k)), (2, .ref y), (3, .int (nI i)), (4, .ref (x + 1 + 1 + (k % 4)))], [.int (nI (k + 1)), .ref (x + 1)], w)
  refine P_iconst (v := 3) d_Quad_touches_17 (by decide) ?_
  refine P_iandN (a := (k + 1)) (m := 3) 2 d_Quad_touches_18 (by omega) (by decide) ?_
  show PW _ _ _ _ _ _ (19, [(0, .ref x), (1, .int (nI k)), (2, .ref y), (3, .int (nI i)), (4, .ref (x + 1 + 1 + (k % 4)))], [.int (nI ((k + 1) % 4)), .ref (x + 1)], w)
  refine P_aald (j := (k + 1) % 4) (q := x + 1 + 1 + ((k + 1) % 4)) d_Quad_touches_19 hq.2.1 rfl (ix_nI (by omega)) (by omega) (rows_at (by omega)) ?_
  refine P_astore d_Quad_touches_20 (by decide) rfl ?_
  refine P_aload_n d_Quad_touches_22 rfl ?_
  refine P_getf (i := 0) d_Quad_touches_23 ok_Quad (by decide) L_Quad_11 hqy.1 rfl ?_
  refine P_iload_n d_Quad_touches_26 rfl ?_
  refine P_iconst (v := 3) d_Quad_touches_27 (by decide) ?_
  refine P_iandN (a := i) (m := 3) 2 d_Quad_touches_28 (by omega) (by decide) ?_
  show PW _ _ _ _ _ _ (29, [(0, .ref x), (1, .int (nI k)), (2, .ref y), (3, .int (nI i)), (4, .ref (x + 1 + 1 + (k % 4))), (5, .ref (x + 1 + 1 + ((k + 1) % 4)))], [.int (nI (i % 4)), .ref (y + 1)], w)
  refine P_aald (j := i % 4) (q := y + 1 + 1 + (i % 4)) d_Quad_touches_29 hqy.2.1 rfl (ix_nI (by omega)) (by omega) (rows_at (by omega)) ?_
  refine P_astore d_Quad_touches_30 (by decide) rfl ?_
  refine P_aload_n d_Quad_touches_32 rfl ?_
  refine P_getf (i := 0) d_Quad_touches_33 ok_Quad (by decide) L_Quad_11 hqy.1 rfl ?_
  refine P_iload_n d_Quad_touches_36 rfl ?_
  refine P_iconst (v := 1) d_Quad_touches_37 (by decide) ?_
  refine P_iaddN (a := i) (b := 1) d_Quad_touches_38 ?_
  show PW _ _ _ _ _ _ (39, [(0, .ref x), (1, .int (nI k)), (2, .ref y), (3, .int (nI i)), (4, .ref (x + 1 + 1 + (k % 4))), (5, .ref (x + 1 + 1 + ((k + 1) % 4))), (6, .ref (y + 1 + 1 + (i % 4)))], [.int (nI (i + 1)), .ref (y + 1)], w)
  refine P_iconst (v := 3) d_Quad_touches_39 (by decide) ?_
  refine P_iandN (a := (i + 1)) (m := 3) 2 d_Quad_touches_40 (by omega) (by decide) ?_
  show PW _ _ _ _ _ _ (41, [(0, .ref x), (1, .int (nI k)), (2, .ref y), (3, .int (nI i)), (4, .ref (x + 1 + 1 + (k % 4))), (5, .ref (x + 1 + 1 + ((k + 1) % 4))), (6, .ref (y + 1 + 1 + (i % 4)))], [.int (nI ((i + 1) % 4)), .ref (y + 1)], w)
  refine P_aald (j := (i + 1) % 4) (q := y + 1 + 1 + ((i + 1) % 4)) d_Quad_touches_41 hqy.2.1 rfl (ix_nI (by omega)) (by omega) (rows_at (by omega)) ?_
  refine P_astore d_Quad_touches_42 (by decide) rfl ?_
  refine P_aload d_Quad_touches_44 rfl ?_
  refine P_aload d_Quad_touches_46 rfl ?_
  refine P_aload d_Quad_touches_48 rfl ?_
  obtain ⟨f1, f1e⟩ := hq.2.2 (k % 4) (by omega)
  obtain ⟨f2, f2e⟩ := hq.2.2 ((k + 1) % 4) (by omega)
  obtain ⟨f3, f3e⟩ := hqy.2.2 (i % 4) (by omega)
  refine P_callS (M := M_Quad_touches) (pc := 50) (as := [.ref (x + 1 + 1 + (k % 4)), .ref (x + 1 + 1 + ((k + 1) % 4)), .ref (y + 1 + 1 + (i % 4))]) d_Quad_touches_50 co_Rows_determinant L_Quad_16 sm_Rows_determinant (s_Rows_determinant f1e f2e f3e) rfl ⟨by decide, by decide⟩ ⟨by decide, by decide⟩ (by exact le_b rfl) ?_ _ rfl
  rintro _ u ⟨⟨v4, rfl⟩, eu⟩
  subst u
  show PW _ _ _ _ _ _ (53, [(0, .ref x), (1, .int (nI k)), (2, .ref y), (3, .int (nI i)), (4, .ref (x + 1 + 1 + (k % 4))), (5, .ref (x + 1 + 1 + ((k + 1) % 4))), (6, .ref (y + 1 + 1 + (i % 4))), (7, .ref (y + 1 + 1 + ((i + 1) % 4)))], [.long v4], w)
  refine P_callS (M := M_Quad_touches) (pc := 53) (as := [.long v4]) d_Quad_touches_53 co_Rows_sign L_Quad_26 sm_Rows_sign (s_Rows_sign v4) rfl ⟨by decide, by decide⟩ ⟨by decide, by decide⟩ (by exact le_b rfl) ?_ _ rfl
  rintro _ u ⟨⟨v5, rfl⟩, eu⟩
  subst u
  show PW _ _ _ _ _ _ (56, [(0, .ref x), (1, .int (nI k)), (2, .ref y), (3, .int (nI i)), (4, .ref (x + 1 + 1 + (k % 4))), (5, .ref (x + 1 + 1 + ((k + 1) % 4))), (6, .ref (y + 1 + 1 + (i % 4))), (7, .ref (y + 1 + 1 + ((i + 1) % 4)))], [.int v5], w)
  refine P_istore d_Quad_touches_56 (by decide) rfl ?_
  refine P_aload d_Quad_touches_58 rfl ?_
  refine P_aload d_Quad_touches_60 rfl ?_
  refine P_aload d_Quad_touches_62 rfl ?_
  obtain ⟨f6, f6e⟩ := hqy.2.2 ((i + 1) % 4) (by omega)
  refine P_callS (M := M_Quad_touches) (pc := 64) (as := [.ref (x + 1 + 1 + (k % 4)), .ref (x + 1 + 1 + ((k + 1) % 4)), .ref (y + 1 + 1 + ((i + 1) % 4))]) d_Quad_touches_64 co_Rows_determinant L_Quad_16 sm_Rows_determinant (s_Rows_determinant f1e f2e f6e) rfl ⟨by decide, by decide⟩ ⟨by decide, by decide⟩ (by exact le_b rfl) ?_ _ rfl
  rintro _ u ⟨⟨v7, rfl⟩, eu⟩
  subst u
  show PW _ _ _ _ _ _ (67, [(0, .ref x), (1, .int (nI k)), (2, .ref y), (3, .int (nI i)), (4, .ref (x + 1 + 1 + (k % 4))), (5, .ref (x + 1 + 1 + ((k + 1) % 4))), (6, .ref (y + 1 + 1 + (i % 4))), (7, .ref (y + 1 + 1 + ((i + 1) % 4))), (8, .int v5)], [.long v7], w)
  refine P_callS (M := M_Quad_touches) (pc := 67) (as := [.long v7]) d_Quad_touches_67 co_Rows_sign L_Quad_26 sm_Rows_sign (s_Rows_sign v7) rfl ⟨by decide, by decide⟩ ⟨by decide, by decide⟩ (by exact le_b rfl) ?_ _ rfl
  rintro _ u ⟨⟨v8, rfl⟩, eu⟩
  subst u
  show PW _ _ _ _ _ _ (70, [(0, .ref x), (1, .int (nI k)), (2, .ref y), (3, .int (nI i)), (4, .ref (x + 1 + 1 + (k % 4))), (5, .ref (x + 1 + 1 + ((k + 1) % 4))), (6, .ref (y + 1 + 1 + (i % 4))), (7, .ref (y + 1 + 1 + ((i + 1) % 4))), (8, .int v5)], [.int v8], w)
  refine P_istore d_Quad_touches_70 (by decide) rfl ?_
  refine P_iload d_Quad_touches_72 rfl ?_
  refine P_if_ne 132 d_Quad_touches_74 (by decide) (fun c9 => ?_) (fun c9 => ?_)
  · refine P_aload d_Quad_touches_132 rfl ?_
    refine P_aload d_Quad_touches_134 rfl ?_
    refine P_aload d_Quad_touches_136 rfl ?_
    refine P_callS (M := M_Quad_touches) (pc := 138) (as := [.ref (y + 1 + 1 + (i % 4)), .ref (y + 1 + 1 + ((i + 1) % 4)), .ref (x + 1 + 1 + (k % 4))]) d_Quad_touches_138 co_Rows_determinant L_Quad_16 sm_Rows_determinant (s_Rows_determinant f3e f6e f1e) rfl ⟨by decide, by decide⟩ ⟨by decide, by decide⟩ (by exact le_b rfl) ?_ _ rfl
    rintro _ u ⟨⟨v10, rfl⟩, eu⟩
    subst u
    show PW _ _ _ _ _ _ (141, [(0, .ref x), (1, .int (nI k)), (2, .ref y), (3, .int (nI i)), (4, .ref (x + 1 + 1 + (k % 4))), (5, .ref (x + 1 + 1 + ((k + 1) % 4))), (6, .ref (y + 1 + 1 + (i % 4))), (7, .ref (y + 1 + 1 + ((i + 1) % 4))), (8, .int v5), (9, .int v8)], [.long v10], w)
    refine P_callS (M := M_Quad_touches) (pc := 141) (as := [.long v10]) d_Quad_touches_141 co_Rows_sign L_Quad_26 sm_Rows_sign (s_Rows_sign v10) rfl ⟨by decide, by decide⟩ ⟨by decide, by decide⟩ (by exact le_b rfl) ?_ _ rfl
    rintro _ u ⟨⟨v11, rfl⟩, eu⟩
    subst u
    show PW _ _ _ _ _ _ (144, [(0, .ref x), (1, .int (nI k)), (2, .ref y), (3, .int (nI i)), (4, .ref (x + 1 + 1 + (k % 4))), (5, .ref (x + 1 + 1 + ((k + 1) % 4))), (6, .ref (y + 1 + 1 + (i % 4))), (7, .ref (y + 1 + 1 + ((i + 1) % 4))), (8, .int v5), (9, .int v8)], [.int v11], w)
    refine P_istore d_Quad_touches_144 (by decide) rfl ?_
    refine P_aload d_Quad_touches_146 rfl ?_
    refine P_aload d_Quad_touches_148 rfl ?_
    refine P_aload d_Quad_touches_150 rfl ?_
    refine P_callS (M := M_Quad_touches) (pc := 152) (as := [.ref (y + 1 + 1 + (i % 4)), .ref (y + 1 + 1 + ((i + 1) % 4)), .ref (x + 1 + 1 + ((k + 1) % 4))]) d_Quad_touches_152 co_Rows_determinant L_Quad_16 sm_Rows_determinant (s_Rows_determinant f3e f6e f2e) rfl ⟨by decide, by decide⟩ ⟨by decide, by decide⟩ (by exact le_b rfl) ?_ _ rfl
    rintro _ u ⟨⟨v12, rfl⟩, eu⟩
    subst u
    show PW _ _ _ _ _ _ (155, [(0, .ref x), (1, .int (nI k)), (2, .ref y), (3, .int (nI i)), (4, .ref (x + 1 + 1 + (k % 4))), (5, .ref (x + 1 + 1 + ((k + 1) % 4))), (6, .ref (y + 1 + 1 + (i % 4))), (7, .ref (y + 1 + 1 + ((i + 1) % 4))), (8, .int v5), (9, .int v8), (10, .int v11)], [.long v12], w)
    refine P_callS (M := M_Quad_touches) (pc := 155) (as := [.long v12]) d_Quad_touches_155 co_Rows_sign L_Quad_26 sm_Rows_sign (s_Rows_sign v12) rfl ⟨by decide, by decide⟩ ⟨by decide, by decide⟩ (by exact le_b rfl) ?_ _ rfl
    rintro _ u ⟨⟨v13, rfl⟩, eu⟩
    subst u
    show PW _ _ _ _ _ _ (158, [(0, .ref x), (1, .int (nI k)), (2, .ref y), (3, .int (nI i)), (4, .ref (x + 1 + 1 + (k % 4))), (5, .ref (x + 1 + 1 + ((k + 1) % 4))), (6, .ref (y + 1 + 1 + (i % 4))), (7, .ref (y + 1 + 1 + ((i + 1) % 4))), (8, .int v5), (9, .int v8), (10, .int v11)], [.int v13], w)
    refine P_istore d_Quad_touches_158 (by decide) rfl ?_
    refine P_iload d_Quad_touches_160 rfl ?_
    refine P_iload d_Quad_touches_162 rfl ?_
    refine P_imul d_Quad_touches_164 ?_
    refine P_if_gt 180 d_Quad_touches_165 (by decide) (fun c14 => ?_) (fun c14 => ?_)
    · refine P_iconst (v := 0) d_Quad_touches_180 (by decide) ?_
      exact P_zret d_Quad_touches_181 rfl rfl (le_b rfl) (le_b rfl) ⟨⟨false, rfl⟩, rfl⟩
    · refine P_iload d_Quad_touches_168 rfl ?_
      refine P_iload d_Quad_touches_170 rfl ?_
      refine P_imul d_Quad_touches_172 ?_
      refine P_if_gt 180 d_Quad_touches_173 (by decide) (fun c15 => ?_) (fun c15 => ?_)
      · refine P_iconst (v := 0) d_Quad_touches_180 (by decide) ?_
        exact P_zret d_Quad_touches_181 rfl rfl (le_b rfl) (le_b rfl) ⟨⟨false, rfl⟩, rfl⟩
      · refine P_iconst (v := 1) d_Quad_touches_176 (by decide) ?_
        refine P_goto 181 d_Quad_touches_177 (by decide) ?_
        exact P_zret d_Quad_touches_181 rfl rfl (le_b rfl) (le_b rfl) ⟨⟨true, rfl⟩, rfl⟩
  · refine P_iload d_Quad_touches_77 rfl ?_
    refine P_if_ne 132 d_Quad_touches_79 (by decide) (fun c16 => ?_) (fun c16 => ?_)
    · refine P_aload d_Quad_touches_132 rfl ?_
      refine P_aload d_Quad_touches_134 rfl ?_
      refine P_aload d_Quad_touches_136 rfl ?_
      refine P_callS (M := M_Quad_touches) (pc := 138) (as := [.ref (y + 1 + 1 + (i % 4)), .ref (y + 1 + 1 + ((i + 1) % 4)), .ref (x + 1 + 1 + (k % 4))]) d_Quad_touches_138 co_Rows_determinant L_Quad_16 sm_Rows_determinant (s_Rows_determinant f3e f6e f1e) rfl ⟨by decide, by decide⟩ ⟨by decide, by decide⟩ (by exact le_b rfl) ?_ _ rfl
      rintro _ u ⟨⟨v17, rfl⟩, eu⟩
      subst u
      show PW _ _ _ _ _ _ (141, [(0, .ref x), (1, .int (nI k)), (2, .ref y), (3, .int (nI i)), (4, .ref (x + 1 + 1 + (k % 4))), (5, .ref (x + 1 + 1 + ((k + 1) % 4))), (6, .ref (y + 1 + 1 + (i % 4))), (7, .ref (y + 1 + 1 + ((i + 1) % 4))), (8, .int v5), (9, .int v8)], [.long v17], w)
      refine P_callS (M := M_Quad_touches) (pc := 141) (as := [.long v17]) d_Quad_touches_141 co_Rows_sign L_Quad_26 sm_Rows_sign (s_Rows_sign v17) rfl ⟨by decide, by decide⟩ ⟨by decide, by decide⟩ (by exact le_b rfl) ?_ _ rfl
      rintro _ u ⟨⟨v18, rfl⟩, eu⟩
      subst u
      show PW _ _ _ _ _ _ (144, [(0, .ref x), (1, .int (nI k)), (2, .ref y), (3, .int (nI i)), (4, .ref (x + 1 + 1 + (k % 4))), (5, .ref (x + 1 + 1 + ((k + 1) % 4))), (6, .ref (y + 1 + 1 + (i % 4))), (7, .ref (y + 1 + 1 + ((i + 1) % 4))), (8, .int v5), (9, .int v8)], [.int v18], w)
      refine P_istore d_Quad_touches_144 (by decide) rfl ?_
      refine P_aload d_Quad_touches_146 rfl ?_
      refine P_aload d_Quad_touches_148 rfl ?_
      refine P_aload d_Quad_touches_150 rfl ?_
      refine P_callS (M := M_Quad_touches) (pc := 152) (as := [.ref (y + 1 + 1 + (i % 4)), .ref (y + 1 + 1 + ((i + 1) % 4)), .ref (x + 1 + 1 + ((k + 1) % 4))]) d_Quad_touches_152 co_Rows_determinant L_Quad_16 sm_Rows_determinant (s_Rows_determinant f3e f6e f2e) rfl ⟨by decide, by decide⟩ ⟨by decide, by decide⟩ (by exact le_b rfl) ?_ _ rfl
      rintro _ u ⟨⟨v19, rfl⟩, eu⟩
      subst u
      show PW _ _ _ _ _ _ (155, [(0, .ref x), (1, .int (nI k)), (2, .ref y), (3, .int (nI i)), (4, .ref (x + 1 + 1 + (k % 4))), (5, .ref (x + 1 + 1 + ((k + 1) % 4))), (6, .ref (y + 1 + 1 + (i % 4))), (7, .ref (y + 1 + 1 + ((i + 1) % 4))), (8, .int v5), (9, .int v8), (10, .int v18)], [.long v19], w)
      refine P_callS (M := M_Quad_touches) (pc := 155) (as := [.long v19]) d_Quad_touches_155 co_Rows_sign L_Quad_26 sm_Rows_sign (s_Rows_sign v19) rfl ⟨by decide, by decide⟩ ⟨by decide, by decide⟩ (by exact le_b rfl) ?_ _ rfl
      rintro _ u ⟨⟨v20, rfl⟩, eu⟩
      subst u
      show PW _ _ _ _ _ _ (158, [(0, .ref x), (1, .int (nI k)), (2, .ref y), (3, .int (nI i)), (4, .ref (x + 1 + 1 + (k % 4))), (5, .ref (x + 1 + 1 + ((k + 1) % 4))), (6, .ref (y + 1 + 1 + (i % 4))), (7, .ref (y + 1 + 1 + ((i + 1) % 4))), (8, .int v5), (9, .int v8), (10, .int v18)], [.int v20], w)
      refine P_istore d_Quad_touches_158 (by decide) rfl ?_
      refine P_iload d_Quad_touches_160 rfl ?_
      refine P_iload d_Quad_touches_162 rfl ?_
      refine P_imul d_Quad_touches_164 ?_
      refine P_if_gt 180 d_Quad_touches_165 (by decide) (fun c21 => ?_) (fun c21 => ?_)
      · refine P_iconst (v := 0) d_Quad_touches_180 (by decide) ?_
        exact P_zret d_Quad_touches_181 rfl rfl (le_b rfl) (le_b rfl) ⟨⟨false, rfl⟩, rfl⟩
      · refine P_iload d_Quad_touches_168 rfl ?_
        refine P_iload d_Quad_touches_170 rfl ?_
        refine P_imul d_Quad_touches_172 ?_
        refine P_if_gt 180 d_Quad_touches_173 (by decide) (fun c22 => ?_) (fun c22 => ?_)
        · refine P_iconst (v := 0) d_Quad_touches_180 (by decide) ?_
          exact P_zret d_Quad_touches_181 rfl rfl (le_b rfl) (le_b rfl) ⟨⟨false, rfl⟩, rfl⟩
        · refine P_iconst (v := 1) d_Quad_touches_176 (by decide) ?_
          refine P_goto 181 d_Quad_touches_177 (by decide) ?_
          exact P_zret d_Quad_touches_181 rfl rfl (le_b rfl) (le_b rfl) ⟨⟨true, rfl⟩, rfl⟩
    · refine P_aload d_Quad_touches_82 rfl ?_
      refine P_iconst (v := 0) d_Quad_touches_84 (by decide) ?_
      refine P_lald (j := 0) d_Quad_touches_85 f1e ⟨by decide, by decide⟩ (by decide) ?_
      refine P_aload d_Quad_touches_86 rfl ?_
      refine P_iconst (v := 0) d_Quad_touches_88 (by decide) ?_
      refine P_lald (j := 0) d_Quad_touches_89 f2e ⟨by decide, by decide⟩ (by decide) ?_
      refine P_aload d_Quad_touches_90 rfl ?_
      refine P_iconst (v := 0) d_Quad_touches_92 (by decide) ?_
      refine P_lald (j := 0) d_Quad_touches_93 f3e ⟨by decide, by decide⟩ (by decide) ?_
      refine P_aload d_Quad_touches_94 rfl ?_
      refine P_iconst (v := 0) d_Quad_touches_96 (by decide) ?_
      refine P_lald (j := 0) d_Quad_touches_97 f6e ⟨by decide, by decide⟩ (by decide) ?_
      refine P_callS (M := M_Quad_touches) (pc := 98) (as := [.long (f1 0), .long (f2 0), .long (f3 0), .long (f6 0)]) d_Quad_touches_98 co_Quad_overlaps L_Quad_59 sm_Quad_overlaps (s_Quad_overlaps (f1 0) (f2 0) (f3 0) (f6 0)) rfl ⟨by decide, by decide⟩ ⟨by decide, by decide⟩ (by exact le_b rfl) ?_ _ rfl
      rintro _ u ⟨⟨v23, rfl⟩, eu⟩
      subst u
      show PW _ _ _ _ _ _ (101, [(0, .ref x), (1, .int (nI k)), (2, .ref y), (3, .int (nI i)), (4, .ref (x + 1 + 1 + (k % 4))), (5, .ref (x + 1 + 1 + ((k + 1) % 4))), (6, .ref (y + 1 + 1 + (i % 4))), (7, .ref (y + 1 + 1 + ((i + 1) % 4))), (8, .int v5), (9, .int v8)], [.int (bi v23)], w)
      refine P_if_eq 130 d_Quad_touches_101 (by decide) (fun c24 => ?_) (fun c24 => ?_)
      · refine P_iconst (v := 0) d_Quad_touches_130 (by decide) ?_
        exact P_zret d_Quad_touches_131 rfl rfl (le_b rfl) (le_b rfl) ⟨⟨false, rfl⟩, rfl⟩
      · refine P_aload d_Quad_touches_104 rfl ?_
        refine P_iconst (v := 1) d_Quad_touches_106 (by decide) ?_
        refine P_lald (j := 1) d_Quad_touches_107 f1e ⟨by decide, by decide⟩ (by decide) ?_
        refine P_aload d_Quad_touches_108 rfl ?_
        refine P_iconst (v := 1) d_Quad_touches_110 (by decide) ?_
        refine P_lald (j := 1) d_Quad_touches_111 f2e ⟨by decide, by decide⟩ (by decide) ?_
        refine P_aload d_Quad_touches_112 rfl ?_
        refine P_iconst (v := 1) d_Quad_touches_114 (by decide) ?_
        refine P_lald (j := 1) d_Quad_touches_115 f3e ⟨by decide, by decide⟩ (by decide) ?_
        refine P_aload d_Quad_touches_116 rfl ?_
        refine P_iconst (v := 1) d_Quad_touches_118 (by decide) ?_
        refine P_lald (j := 1) d_Quad_touches_119 f6e ⟨by decide, by decide⟩ (by decide) ?_
        refine P_callS (M := M_Quad_touches) (pc := 120) (as := [.long (f1 1), .long (f2 1), .long (f3 1), .long (f6 1)]) d_Quad_touches_120 co_Quad_overlaps L_Quad_59 sm_Quad_overlaps (s_Quad_overlaps (f1 1) (f2 1) (f3 1) (f6 1)) rfl ⟨by decide, by decide⟩ ⟨by decide, by decide⟩ (by exact le_b rfl) ?_ _ rfl
        rintro _ u ⟨⟨v25, rfl⟩, eu⟩
        subst u
        show PW _ _ _ _ _ _ (123, [(0, .ref x), (1, .int (nI k)), (2, .ref y), (3, .int (nI i)), (4, .ref (x + 1 + 1 + (k % 4))), (5, .ref (x + 1 + 1 + ((k + 1) % 4))), (6, .ref (y + 1 + 1 + (i % 4))), (7, .ref (y + 1 + 1 + ((i + 1) % 4))), (8, .int v5), (9, .int v8)], [.int (bi v25)], w)
        refine P_if_eq 130 d_Quad_touches_123 (by decide) (fun c26 => ?_) (fun c26 => ?_)
        · refine P_iconst (v := 0) d_Quad_touches_130 (by decide) ?_
          exact P_zret d_Quad_touches_131 rfl rfl (le_b rfl) (le_b rfl) ⟨⟨false, rfl⟩, rfl⟩
        · refine P_iconst (v := 1) d_Quad_touches_126 (by decide) ?_
          refine P_goto 131 d_Quad_touches_127 (by decide) ?_
          exact P_zret d_Quad_touches_131 rfl rfl (le_b rfl) (le_b rfl) ⟨⟨true, rfl⟩, rfl⟩
theorem s_Quad_putFrame {G : pG} {w : pW} {x : Nat} (hq : QuadS w x) (k : Nat) (hk : k < 24) {o : Nat} {fo : Nat → Int64} (ho : w.2 o = .inl (1, 9, .inr (.inl fo))) (hxo : o < 1000000) (nqx : ∀ k, k < 4 → x + 1 + 1 + k ≠ o) (hG : GO G) : PM G M_Quad_putFrame 1 0 0 [.ref x, .int (nI k), .ref o] w (fun r w' => r = none ∧ W1 o 9 w w') := by
  refine PM_of pn_Quad_putFrame (le_b rfl) ?_
  show PW _ _ _ _ _ _ (0, [(0, .ref x), (1, .int (nI k)), (2, .ref o)], [], w)
  have hW0 : W1 o 9 w w := W1.rf ho
  refine P_aload_n d_Quad_putFrame_0 rfl ?_
  refine P_getf (i := 0) d_Quad_putFrame_1 ok_Quad (by decide) L_Quad_11 hq.1 rfl ?_
  refine P_getsN ("CornerMaps", "ORDERS", "[I", 1) (by decide) d_Quad_putFrame_4 L_Quad_62 ?_
  show PW _ _ _ _ _ _ (7, [(0, .ref x), (1, .int (nI k)), (2, .ref o)], [.ref 1000001, .ref (x + 1)], w)
  refine PW.ext (fun hx => ?_)
  have o1 : w.2 1000001 = .inl (0, 96, .inl ordF) := (hx 1).trans (GO_1 hG)
  refine P_iconst (v := 4) d_Quad_putFrame_7 (by decide) ?_
  refine P_iload_n d_Quad_putFrame_8 rfl ?_
  refine P_imulN (a := 4) (b := k) d_Quad_putFrame_9 ?_
  show PW _ _ _ _ _ _ (10, [(0, .ref x), (1, .int (nI k)), (2, .ref o)], [.int (nI (4 * k)), .ref 1000001, .ref (x + 1)], w)
  refine P_iald (j := 4 * k) d_Quad_putFrame_10 o1 (ix_nI (by omega)) (by omega) ?_
  obtain ⟨k2, k2l, k2e⟩ := ord_lt (j := 4 * k) (by omega)
  rw [k2e]
  refine P_aald (j := k2) (q := x + 1 + 1 + k2) d_Quad_putFrame_11 hq.2.1 rfl (ix_nI (by omega)) (by omega) (rows_at (by omega)) ?_
  refine P_astore_n d_Quad_putFrame_12 (by decide) rfl ?_
  refine P_aload_n d_Quad_putFrame_13 rfl ?_
  refine P_getf (i := 0) d_Quad_putFrame_14 ok_Quad (by decide) L_Quad_11 hq.1 rfl ?_
  refine P_getsN ("CornerMaps", "ORDERS", "[I", 1) (by decide) d_Quad_putFrame_17 L_Quad_62 ?_
  show PW _ _ _ _ _ _ (20, [(0, .ref x), (1, .int (nI k)), (2, .ref o), (3, .ref (x + 1 + 1 + k2))], [.ref 1000001, .ref (x + 1)], w)
  refine PW.ext (fun hx => ?_)
  have o3 : w.2 1000001 = .inl (0, 96, .inl ordF) := (hx 1).trans (GO_1 hG)
  refine P_iconst (v := 4) d_Quad_putFrame_20 (by decide) ?_
  refine P_iload_n d_Quad_putFrame_21 rfl ?_
  refine P_imulN (a := 4) (b := k) d_Quad_putFrame_22 ?_
  show PW _ _ _ _ _ _ (23, [(0, .ref x), (1, .int (nI k)), (2, .ref o), (3, .ref (x + 1 + 1 + k2))], [.int (nI (4 * k)), .ref 1000001, .ref (x + 1)], w)
  refine P_iconst (v := 1) d_Quad_putFrame_23 (by decide) ?_
  refine P_iaddN (a := (4 * k)) (b := 1) d_Quad_putFrame_24 ?_
  show PW _ _ _ _ _ _ (25, [(0, .ref x), (1, .int (nI k)), (2, .ref o), (3, .ref (x + 1 + 1 + k2))], [.int (nI ((4 * k) + 1)), .ref 1000001, .ref (x + 1)], w)
  refine P_iald (j := (4 * k) + 1) d_Quad_putFrame_25 o3 (ix_nI (by omega)) (by omega) ?_
  obtain ⟨k4, k4l, k4e⟩ := ord_lt (j := (4 * k) + 1) (by omega)
  rw [k4e]
  refine P_aald (j := k4) (q := x + 1 + 1 + k4) d_Quad_putFrame_26 hq.2.1 rfl (ix_nI (by omega)) (by omega) (rows_at (by omega)) ?_
  refine P_astore d_Quad_putFrame_27 (by decide) rfl ?_
  refine P_aload_n d_Quad_putFrame_29 rfl ?_
  refine P_getf (i := 0) d_Quad_putFrame_30 ok_Quad (by decide) L_Quad_11 hq.1 rfl ?_
  refine P_getsN ("CornerMaps", "ORDERS", "[I", 1) (by decide) d_Quad_putFrame_33 L_Quad_62 ?_
  show PW _ _ _ _ _ _ (36, [(0, .ref x), (1, .int (nI k)), (2, .ref o), (3, .ref (x + 1 + 1 + k2)), (4, .ref (x + 1 + 1 + k4))], [.ref 1000001, .ref (x + 1)], w)
  refine PW.ext (fun hx => ?_)
  have o5 : w.2 1000001 = .inl (0, 96, .inl ordF) := (hx 1).trans (GO_1 hG)
  refine P_iconst (v := 4) d_Quad_putFrame_36 (by decide) ?_
  refine P_iload_n d_Quad_putFrame_37 rfl ?_
  refine P_imulN (a := 4) (b := k) d_Quad_putFrame_38 ?_
  show PW _ _ _ _ _ _ (39, [(0, .ref x), (1, .int (nI k)), (2, .ref o), (3, .ref (x + 1 + 1 + k2)), (4, .ref (x + 1 + 1 + k4))], [.int (nI (4 * k)), .ref 1000001, .ref (x + 1)], w)
  refine P_iconst (v := 2) d_Quad_putFrame_39 (by decide) ?_
  refine P_iaddN (a := (4 * k)) (b := 2) d_Quad_putFrame_40 ?_
  show PW _ _ _ _ _ _ (41, [(0, .ref x), (1, .int (nI k)), (2, .ref o), (3, .ref (x + 1 + 1 + k2)), (4, .ref (x + 1 + 1 + k4))], [.int (nI ((4 * k) + 2)), .ref 1000001, .ref (x + 1)], w)
  refine P_iald (j := (4 * k) + 2) d_Quad_putFrame_41 o5 (ix_nI (by omega)) (by omega) ?_
  obtain ⟨k6, k6l, k6e⟩ := ord_lt (j := (4 * k) + 2) (by omega)
  rw [k6e]
  refine P_aald (j := k6) (q := x + 1 + 1 + k6) d_Quad_putFrame_42 hq.2.1 rfl (ix_nI (by omega)) (by omega) (rows_at (by omega)) ?_
  refine P_astore d_Quad_putFrame_43 (by decide) rfl ?_
  refine P_aload_n d_Quad_putFrame_45 rfl ?_
  refine P_getf (i := 0) d_Quad_putFrame_46 ok_Quad (by decide) L_Quad_11 hq.1 rfl ?_
  refine P_getsN ("CornerMaps", "ORDERS", "[I", 1) (by decide) d_Quad_putFrame_49 L_Quad_62 ?_
  show PW _ _ _ _ _ _ (52, [(0, .ref x), (1, .int (nI k)), (2, .ref o), (3, .ref (x + 1 + 1 + k2)), (4, .ref (x + 1 + 1 + k4)), (5, .ref (x + 1 + 1 + k6))], [.ref 1000001, .ref (x + 1)], w)
  refine PW.ext (fun hx => ?_)
  have o7 : w.2 1000001 = .inl (0, 96, .inl ordF) := (hx 1).trans (GO_1 hG)
  refine P_iconst (v := 4) d_Quad_putFrame_52 (by decide) ?_
  refine P_iload_n d_Quad_putFrame_53 rfl ?_
  refine P_imulN (a := 4) (b := k) d_Quad_putFrame_54 ?_
  show PW _ _ _ _ _ _ (55, [(0, .ref x), (1, .int (nI k)), (2, .ref o), (3, .ref (x + 1 + 1 + k2)), (4, .ref (x + 1 + 1 + k4)), (5, .ref (x + 1 + 1 + k6))], [.int (nI (4 * k)), .ref 1000001, .ref (x + 1)], w)
  refine P_iconst (v := 3) d_Quad_putFrame_55 (by decide) ?_
  refine P_iaddN (a := (4 * k)) (b := 3) d_Quad_putFrame_56 ?_
  show PW _ _ _ _ _ _ (57, [(0, .ref x), (1, .int (nI k)), (2, .ref o), (3, .ref (x + 1 + 1 + k2)), (4, .ref (x + 1 + 1 + k4)), (5, .ref (x + 1 + 1 + k6))], [.int (nI ((4 * k) + 3)), .ref 1000001, .ref (x + 1)], w)
  refine P_iald (j := (4 * k) + 3) d_Quad_putFrame_57 o7 (ix_nI (by omega)) (by omega) ?_
  obtain ⟨k8, k8l, k8e⟩ := ord_lt (j := (4 * k) + 3) (by omega)
  rw [k8e]
  refine P_aald (j := k8) (q := x + 1 + 1 + k8) d_Quad_putFrame_58 hq.2.1 rfl (ix_nI (by omega)) (by omega) (rows_at (by omega)) ?_
  refine P_astore d_Quad_putFrame_59 (by decide) rfl ?_
  refine P_aload d_Quad_putFrame_61 rfl ?_
  refine P_aload d_Quad_putFrame_63 rfl ?_
  refine P_aload d_Quad_putFrame_65 rfl ?_
  obtain ⟨f9, f9e⟩ := hq.2.2 k8 (by omega)
  obtain ⟨f10, f10e⟩ := hq.2.2 k4 (by omega)
  obtain ⟨f11, f11e⟩ := hq.2.2 k6 (by omega)
  refine P_callS (M := M_Quad_putFrame) (pc := 67) (as := [.ref (x + 1 + 1 + k8), .ref (x + 1 + 1 + k4), .ref (x + 1 + 1 + k6)]) d_Quad_putFrame_67 co_Rows_determinant L_Quad_16 sm_Rows_determinant (s_Rows_determinant f9e f10e f11e) rfl ⟨by decide, by decide⟩ ⟨by decide, by decide⟩ (by exact le_b rfl) ?_ _ rfl
  rintro _ u ⟨⟨v12, rfl⟩, eu⟩
  subst u
  show PW _ _ _ _ _ _ (70, [(0, .ref x), (1, .int (nI k)), (2, .ref o), (3, .ref (x + 1 + 1 + k2)), (4, .ref (x + 1 + 1 + k4)), (5, .ref (x + 1 + 1 + k6)), (6, .ref (x + 1 + 1 + k8))], [.long v12], w)
  refine P_lstore d_Quad_putFrame_70 (by decide) rfl ?_
  refine P_aload_n d_Quad_putFrame_72 rfl ?_
  refine P_aload d_Quad_putFrame_73 rfl ?_
  refine P_aload d_Quad_putFrame_75 rfl ?_
  obtain ⟨f13, f13e⟩ := hq.2.2 k2 (by omega)
  refine P_callS (M := M_Quad_putFrame) (pc := 77) (as := [.ref (x + 1 + 1 + k2), .ref (x + 1 + 1 + k8), .ref (x + 1 + 1 + k6)]) d_Quad_putFrame_77 co_Rows_determinant L_Quad_16 sm_Rows_determinant (s_Rows_determinant f13e f9e f11e) rfl ⟨by decide, by decide⟩ ⟨by decide, by decide⟩ (by exact le_b rfl) ?_ _ rfl
  rintro _ u ⟨⟨v14, rfl⟩, eu⟩
  subst u
  show PW _ _ _ _ _ _ (80, [(0, .ref x), (1, .int (nI k)), (2, .ref o), (3, .ref (x + 1 + 1 + k2)), (4, .ref (x + 1 + 1 + k4)), (5, .ref (x + 1 + 1 + k6)), (6, .ref (x + 1 + 1 + k8)), (7, .long v12)], [.long v14], w)
  refine P_lstore d_Quad_putFrame_80 (by decide) rfl ?_
  refine P_aload_n d_Quad_putFrame_82 rfl ?_
  refine P_aload d_Quad_putFrame_83 rfl ?_
  refine P_aload d_Quad_putFrame_85 rfl ?_
  refine P_callS (M := M_Quad_putFrame) (pc := 87) (as := [.ref (x + 1 + 1 + k2), .ref (x + 1 + 1 + k4), .ref (x + 1 + 1 + k8)]) d_Quad_putFrame_87 co_Rows_determinant L_Quad_16 sm_Rows_determinant (s_Rows_determinant f13e f10e f9e) rfl ⟨by decide, by decide⟩ ⟨by decide, by decide⟩ (by exact le_b rfl) ?_ _ rfl
  rintro _ u ⟨⟨v15, rfl⟩, eu⟩
  subst u
  show PW _ _ _ _ _ _ (90, [(0, .ref x), (1, .int (nI k)), (2, .ref o), (3, .ref (x + 1 + 1 + k2)), (4, .ref (x + 1 + 1 + k4)), (5, .ref (x + 1 + 1 + k6)), (6, .ref (x + 1 + 1 + k8)), (7, .long v12), (9, .long v14)], [.long v15], w)
  refine P_lstore d_Quad_putFrame_90 (by decide) rfl ?_
  refine P_iconst (v := 0) d_Quad_putFrame_92 (by decide) ?_
  refine P_istore d_Quad_putFrame_93 (by decide) rfl ?_
  refine PW_ind (σ := pW) (3) (fun jj ss => W1 o 9 w (ss)) (fun jj ss => (95, [(0, .ref x), (1, .int (nI k)), (2, .ref o), (3, .ref (x + 1 + 1 + k2)), (4, .ref (x + 1 + 1 + k4)), (5, .ref (x + 1 + 1 + k6)), (6, .ref (x + 1 + 1 + k8)), (7, .long v12), (9, .long v14), (11, .long v15), (13, .int (nI jj))], [], ss)) ?_ ?_ 0 (w) (by omega) (hW0)
  · rintro uj16 hWj16
    obtain ⟨f17, f17e⟩ := W1.at hWj16
    show PW _ _ _ _ _ _ (95, [(0, .ref x), (1, .int (nI k)), (2, .ref o), (3, .ref (x + 1 + 1 + k2)), (4, .ref (x + 1 + 1 + k4)), (5, .ref (x + 1 + 1 + k6)), (6, .ref (x + 1 + 1 + k8)), (7, .long v12), (9, .long v14), (11, .long v15), (13, .int 3)], [], uj16)
    refine P_iload d_Quad_putFrame_95 rfl ?_
    refine P_iconst (v := 3) d_Quad_putFrame_97 (by decide) ?_
    refine P_icmp_ge 152 d_Quad_putFrame_98 (by decide) (fun _ => ?_) (fun h => absurd (by decide) h)
    exact P_vret d_Quad_putFrame_152 rfl (le_b rfl) (le_b rfl) ⟨rfl, hWj16⟩
  · rintro j16 uj16 hj16 hWj16 kkj16
    obtain ⟨f18, f18e⟩ := W1.at hWj16
    show PW _ _ _ _ _ _ (95, [(0, .ref x), (1, .int (nI k)), (2, .ref o), (3, .ref (x + 1 + 1 + k2)), (4, .ref (x + 1 + 1 + k4)), (5, .ref (x + 1 + 1 + k6)), (6, .ref (x + 1 + 1 + k8)), (7, .long v12), (9, .long v14), (11, .long v15), (13, .int (nI j16))], [], uj16)
    refine P_iload d_Quad_putFrame_95 rfl ?_
    refine P_iconst (v := 3) d_Quad_putFrame_97 (by decide) ?_
    refine P_icmp_ge 152 d_Quad_putFrame_98 (by decide) (fun h => absurd h (nI_geF (a := j16) (b := 3) (by omega) (by omega))) (fun _ => ?_)
    refine P_aload_n d_Quad_putFrame_101 rfl ?_
    refine P_iconst (v := 3) d_Quad_putFrame_102 (by decide) ?_
    refine P_iload d_Quad_putFrame_103 rfl ?_
    refine P_imulN (a := 3) (b := j16) d_Quad_putFrame_105 ?_
    show PW _ _ _ _ _ _ (106, [(0, .ref x), (1, .int (nI k)), (2, .ref o), (3, .ref (x + 1 + 1 + k2)), (4, .ref (x + 1 + 1 + k4)), (5, .ref (x + 1 + 1 + k6)), (6, .ref (x + 1 + 1 + k8)), (7, .long v12), (9, .long v14), (11, .long v15), (13, .int (nI j16))], [.int (nI (3 * j16)), .ref o], uj16)
    refine P_lload d_Quad_putFrame_106 rfl ?_
    refine P_aload_n d_Quad_putFrame_108 rfl ?_
    refine P_iload d_Quad_putFrame_109 rfl ?_
    refine P_lald (j := j16) d_Quad_putFrame_111 ((W1.ne hWj16 _ (nqx _ (by omega))).trans f13e) (ix_nI (by omega)) (by omega) ?_
    refine P_lmul d_Quad_putFrame_112 ?_
    refine P_lastG (j := 3 * j16) d_Quad_putFrame_113 f18e hxo (ix_nI (by omega)) (by omega) (fun w19 e19 s19 n19 z19 => ?_)
    generalize vp_updL _ _ _ = g20 at e19 s19
    have hW19 : W1 o 9 w w19 := W1.st hWj16 e19
    show PW _ _ _ _ _ _ (114, [(0, .ref x), (1, .int (nI k)), (2, .ref o), (3, .ref (x + 1 + 1 + k2)), (4, .ref (x + 1 + 1 + k4)), (5, .ref (x + 1 + 1 + k6)), (6, .ref (x + 1 + 1 + k8)), (7, .long v12), (9, .long v14), (11, .long v15), (13, .int (nI j16))], [], w19)
    refine P_aload_n d_Quad_putFrame_114 rfl ?_
    refine P_iconst (v := 3) d_Quad_putFrame_115 (by decide) ?_
    refine P_iload d_Quad_putFrame_116 rfl ?_
    refine P_imulN (a := 3) (b := j16) d_Quad_putFrame_118 ?_
    show PW _ _ _ _ _ _ (119, [(0, .ref x), (1, .int (nI k)), (2, .ref o), (3, .ref (x + 1 + 1 + k2)), (4, .ref (x + 1 + 1 + k4)), (5, .ref (x + 1 + 1 + k6)), (6, .ref (x + 1 + 1 + k8)), (7, .long v12), (9, .long v14), (11, .long v15), (13, .int (nI j16))], [.int (nI (3 * j16)), .ref o], w19)
    refine P_iconst (v := 1) d_Quad_putFrame_119 (by decide) ?_
    refine P_iaddN (a := (3 * j16)) (b := 1) d_Quad_putFrame_120 ?_
    show PW _ _ _ _ _ _ (121, [(0, .ref x), (1, .int (nI k)), (2, .ref o), (3, .ref (x + 1 + 1 + k2)), (4, .ref (x + 1 + 1 + k4)), (5, .ref (x + 1 + 1 + k6)), (6, .ref (x + 1 + 1 + k8)), (7, .long v12), (9, .long v14), (11, .long v15), (13, .int (nI j16))], [.int (nI ((3 * j16) + 1)), .ref o], w19)
    refine P_lload d_Quad_putFrame_121 rfl ?_
    refine P_aload d_Quad_putFrame_123 rfl ?_
    refine P_iload d_Quad_putFrame_125 rfl ?_
    refine P_lald (j := j16) d_Quad_putFrame_127 ((w_n e19 _ (nqx _ (by omega))).trans ((W1.ne hWj16 _ (nqx _ (by omega))).trans f10e)) (ix_nI (by omega)) (by omega) ?_
    refine P_lmul d_Quad_putFrame_128 ?_
    refine P_lastG (j := (3 * j16) + 1) d_Quad_putFrame_129 s19 hxo (ix_nI (by omega)) (by omega) (fun w21 e21 s21 n21 z21 => ?_)
    generalize vp_updL _ _ _ = g22 at e21 s21
    have hW21 : W1 o 9 w w21 := W1.st hW19 e21
    show PW _ _ _ _ _ _ (130, [(0, .ref x), (1, .int (nI k)), (2, .ref o), (3, .ref (x + 1 + 1 + k2)), (4, .ref (x + 1 + 1 + k4)), (5, .ref (x + 1 + 1 + k6)), (6, .ref (x + 1 + 1 + k8)), (7, .long v12), (9, .long v14), (11, .long v15), (13, .int (nI j16))], [], w21)
    refine P_aload_n d_Quad_putFrame_130 rfl ?_
    refine P_iconst (v := 3) d_Quad_putFrame_131 (by decide) ?_
    refine P_iload d_Quad_putFrame_132 rfl ?_
    refine P_imulN (a := 3) (b := j16) d_Quad_putFrame_134 ?_
    show PW _ _ _ _ _ _ (135, [(0, .ref x), (1, .int (nI k)), (2, .ref o), (3, .ref (x + 1 + 1 + k2)), (4, .ref (x + 1 + 1 + k4)), (5, .ref (x + 1 + 1 + k6)), (6, .ref (x + 1 + 1 + k8)), (7, .long v12), (9, .long v14), (11, .long v15), (13, .int (nI j16))], [.int (nI (3 * j16)), .ref o], w21)
    refine P_iconst (v := 2) d_Quad_putFrame_135 (by decide) ?_
    refine P_iaddN (a := (3 * j16)) (b := 2) d_Quad_putFrame_136 ?_
    show PW _ _ _ _ _ _ (137, [(0, .ref x), (1, .int (nI k)), (2, .ref o), (3, .ref (x + 1 + 1 + k2)), (4, .ref (x + 1 + 1 + k4)), (5, .ref (x + 1 + 1 + k6)), (6, .ref (x + 1 + 1 + k8)), (7, .long v12), (9, .long v14), (11, .long v15), (13, .int (nI j16))], [.int (nI ((3 * j16) + 2)), .ref o], w21)
    refine P_lload d_Quad_putFrame_137 rfl ?_
    refine P_aload d_Quad_putFrame_139 rfl ?_
    refine P_iload d_Quad_putFrame_141 rfl ?_
    refine P_lald (j := j16) d_Quad_putFrame_143 ((w_n e21 _ (nqx _ (by omega))).trans ((w_n e19 _ (nqx _ (by omega))).trans ((W1.ne hWj16 _ (nqx _ (by omega))).trans f11e))) (ix_nI (by omega)) (by omega) ?_
    refine P_lmul d_Quad_putFrame_144 ?_
    refine P_lastG (j := (3 * j16) + 2) d_Quad_putFrame_145 s21 hxo (ix_nI (by omega)) (by omega) (fun w23 e23 s23 n23 z23 => ?_)
    generalize vp_updL _ _ _ = g24 at e23 s23
    have hW23 : W1 o 9 w w23 := W1.st hW21 e23
    show PW _ _ _ _ _ _ (146, [(0, .ref x), (1, .int (nI k)), (2, .ref o), (3, .ref (x + 1 + 1 + k2)), (4, .ref (x + 1 + 1 + k4)), (5, .ref (x + 1 + 1 + k6)), (6, .ref (x + 1 + 1 + k8)), (7, .long v12), (9, .long v14), (11, .long v15), (13, .int (nI j16))], [], w23)
    refine P_iinc (v := nI (j16 + 1)) d_Quad_putFrame_146 (by decide) rfl (nI_add j16 1) rfl ?_
    refine P_goto 95 d_Quad_putFrame_149 (by decide) ?_
    exact kkj16 (w23) (hW23)
theorem s_CM_bit {G : pG} {w : pW} (a : Int32) : PM G M_CM_bit 0 0 0 [.int a] w (fun r w' => (∃ v, r = some (.int v)) ∧ w' = w) := by
  refine PM_of pn_CM_bit (le_b rfl) ?_
  show PW _ _ _ _ _ _ (0, [(0, .int a)], [], w)
  refine P_iload_n d_CM_bit_0 rfl ?_
  refine P_if_eq 8 d_CM_bit_1 (by decide) (fun c1 => ?_) (fun c1 => ?_)
  · refine P_iconst (v := 0) d_CM_bit_8 (by decide) ?_
    exact P_iret d_CM_bit_9 rfl (le_b rfl) (le_b rfl) ⟨⟨_, rfl⟩, rfl⟩
  · refine P_iconst (v := 1) d_CM_bit_4 (by decide) ?_
    refine P_goto 9 d_CM_bit_5 (by decide) ?_
    exact P_iret d_CM_bit_9 rfl (le_b rfl) (le_b rfl) ⟨⟨_, rfl⟩, rfl⟩
