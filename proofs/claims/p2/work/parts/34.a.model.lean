/-! shapes: the reference (by program) -/
theorem s_MD_isQuad {G : pG} {w : pW} (a : Int32) {tp qs un : Nat} {nq ln nl sz at_ pl so vl wo fa fp lf lp th rm um sm : Int32} (em : w.2 467 = mO (nI tp) (nI qs) nq (nI un) ln nl sz at_ pl so vl wo fa fp lf lp th rm um sm) (htp : tp ≤ 900) (hqs : qs ≤ 8) (hun : un ≤ 16) : PM G M_MD_isQuad 0 0 0 [.ref 467, .int a] w (fun r w' => r = some (.int (bi (inN qs a))) ∧ w' = w) := by
  refine PM_of pn_MD_isQuad (le_b rfl) ?_
  show PW _ _ _ _ _ _ (0, [(0, .ref 467), (1, .int a)], [], w)
  refine P_iload_n d_MD_isQuad_0 rfl ?_
  refine P_if_lt 16 d_MD_isQuad_1 (by decide) (fun c1 => ?_) (fun c1 => ?_)
  · refine P_iconst (v := 0) d_MD_isQuad_16 (by decide) ?_
    exact P_zret d_MD_isQuad_17 rfl rfl (le_b rfl) (le_b rfl) ⟨by rw [inN_f1 c1]; rfl, rfl⟩
  · obtain ⟨aN, haN, rfl⟩ := nI_of c1
    refine P_iload_n d_MD_isQuad_4 rfl ?_
    refine P_aload_n d_MD_isQuad_5 rfl ?_
    refine P_getf (i := 5) d_MD_isQuad_6 ok_Model (by decide) L_MD_204 em rfl ?_
    refine P_icmp_ge 16 d_MD_isQuad_9 (by decide) (fun c2 => ?_) (fun c2 => ?_)
    · have ic2 : aN ≥ qs := nI_get (by omega) (by omega) c2
      refine P_iconst (v := 0) d_MD_isQuad_16 (by decide) ?_
      exact P_zret d_MD_isQuad_17 rfl rfl (le_b rfl) (le_b rfl) ⟨by rw [inN_fN ic2 (by omega)]; rfl, rfl⟩
    · have ic2 : aN < qs := nI_gef (by omega) (by omega) c2
      refine P_iconst (v := 1) d_MD_isQuad_12 (by decide) ?_
      refine P_goto 17 d_MD_isQuad_13 (by decide) ?_
      exact P_zret d_MD_isQuad_17 rfl rfl (le_b rfl) (le_b rfl) ⟨by rw [inN_tN ic2 (by omega)]; rfl, rfl⟩
theorem s_MD_isMap {G : pG} {w : pW} (a : Int32) {tp qs un : Nat} {nq ln nl sz at_ pl so vl wo fa fp lf lp th rm um sm : Int32} (em : w.2 467 = mO (nI tp) (nI qs) nq (nI un) ln nl sz at_ pl so vl wo fa fp lf lp th rm um sm) (htp : tp ≤ 900) (hqs : qs ≤ 8) (hun : un ≤ 16) {fn : Nat → Int64} (r471 : w.2 471 = .inl (1, 170, .inr (.inl fn))) {nm np : Nat} (hnm : nm ≤ 16) (e8 : fn 168 = lN nm) (hnp : np ≤ 8) (e9 : fn 169 = lN np) : PM G M_MD_isMap 0 0 0 [.ref 467, .int a] w (fun r w' => r = some (.int (bi (inN nm a))) ∧ w' = w) := by
  refine PM_of pn_MD_isMap (le_b rfl) ?_
  show PW _ _ _ _ _ _ (0, [(0, .ref 467), (1, .int a)], [], w)
  refine P_iload_n d_MD_isMap_0 rfl ?_
  refine P_if_lt 22 d_MD_isMap_1 (by decide) (fun c1 => ?_) (fun c1 => ?_)
  · refine P_iconst (v := 0) d_MD_isMap_22 (by decide) ?_
    exact P_zret d_MD_isMap_23 rfl rfl (le_b rfl) (le_b rfl) ⟨by rw [inN_f1 c1]; rfl, rfl⟩
  · obtain ⟨aN, haN, rfl⟩ := nI_of c1
    refine P_iload_n d_MD_isMap_4 rfl ?_
    refine P_i2lN (n1 := aN) d_MD_isMap_5 (by omega) ?_
    refine P_aload_n d_MD_isMap_6 rfl ?_
    refine P_getf (i := 7) d_MD_isMap_7 ok_Model (by decide) L_MD_21 em rfl ?_
    refine P_sipush (v := 168) d_MD_isMap_10 (by decide) ?_
    refine P_lald (j := 168) d_MD_isMap_13 r471 ⟨by decide, by decide⟩ (by decide) ?_
    rw [e8]
    show PW _ _ _ _ _ _ (14, [(0, .ref 467), (1, .int (nI aN))], [.long (lN nm), .long (lN aN)], w)
    refine P_lcmpN (a := aN) (b := nm) d_MD_isMap_14 (by omega) (by omega) ?_
    show PW _ _ _ _ _ _ (15, [(0, .ref 467), (1, .int (nI aN))], [.int (cN aN nm)], w)
    refine P_if_ge 22 d_MD_isMap_15 (by decide) (fun c2 => ?_) (fun c2 => ?_)
    · have ic2 := cN_get c2
      refine P_iconst (v := 0) d_MD_isMap_22 (by decide) ?_
      exact P_zret d_MD_isMap_23 rfl rfl (le_b rfl) (le_b rfl) ⟨by rw [inN_fN ic2 (by omega)]; rfl, rfl⟩
    · have ic2 := cN_gef c2
      refine P_iconst (v := 1) d_MD_isMap_18 (by decide) ?_
      refine P_goto 23 d_MD_isMap_19 (by decide) ?_
      exact P_zret d_MD_isMap_23 rfl rfl (le_b rfl) (le_b rfl) ⟨by rw [inN_tN ic2 (by omega)]; rfl, rfl⟩
theorem s_MD_isPoint {G : pG} {w : pW} (a : Int32) {tp qs un : Nat} {nq ln nl sz at_ pl so vl wo fa fp lf lp th rm um sm : Int32} (em : w.2 467 = mO (nI tp) (nI qs) nq (nI un) ln nl sz at_ pl so vl wo fa fp lf lp th rm um sm) (htp : tp ≤ 900) (hqs : qs ≤ 8) (hun : un ≤ 16) {fn : Nat → Int64} (r471 : w.2 471 = .inl (1, 170, .inr (.inl fn))) {nm np : Nat} (hnm : nm ≤ 16) (e8 : fn 168 = lN nm) (hnp : np ≤ 8) (e9 : fn 169 = lN np) : PM G M_MD_isPoint 0 0 0 [.ref 467, .int a] w (fun r w' => r = some (.int (bi (inN np a))) ∧ w' = w) := by
  refine PM_of pn_MD_isPoint (le_b rfl) ?_
  show PW _ _ _ _ _ _ (0, [(0, .ref 467), (1, .int a)], [], w)
  refine P_iload_n d_MD_isPoint_0 rfl ?_
  refine P_if_lt 22 d_MD_isPoint_1 (by decide) (fun c1 => ?_) (fun c1 => ?_)
  · refine P_iconst (v := 0) d_MD_isPoint_22 (by decide) ?_
    exact P_zret d_MD_isPoint_23 rfl rfl (le_b rfl) (le_b rfl) ⟨by rw [inN_f1 c1]; rfl, rfl⟩
  · obtain ⟨aN, haN, rfl⟩ := nI_of c1
    refine P_iload_n d_MD_isPoint_4 rfl ?_
    refine P_i2lN (n1 := aN) d_MD_isPoint_5 (by omega) ?_
    refine P_aload_n d_MD_isPoint_6 rfl ?_
    refine P_getf (i := 7) d_MD_isPoint_7 ok_Model (by decide) L_MD_21 em rfl ?_
    refine P_sipush (v := 169) d_MD_isPoint_10 (by decide) ?_
    refine P_lald (j := 169) d_MD_isPoint_13 r471 ⟨by decide, by decide⟩ (by decide) ?_
    rw [e9]
    show PW _ _ _ _ _ _ (14, [(0, .ref 467), (1, .int (nI aN))], [.long (lN np), .long (lN aN)], w)
    refine P_lcmpN (a := aN) (b := np) d_MD_isPoint_14 (by omega) (by omega) ?_
    show PW _ _ _ _ _ _ (15, [(0, .ref 467), (1, .int (nI aN))], [.int (cN aN np)], w)
    refine P_if_ge 22 d_MD_isPoint_15 (by decide) (fun c2 => ?_) (fun c2 => ?_)
    · have ic2 := cN_get c2
      refine P_iconst (v := 0) d_MD_isPoint_22 (by decide) ?_
      exact P_zret d_MD_isPoint_23 rfl rfl (le_b rfl) (le_b rfl) ⟨by rw [inN_fN ic2 (by omega)]; rfl, rfl⟩
    · have ic2 := cN_gef c2
      refine P_iconst (v := 1) d_MD_isPoint_18 (by decide) ?_
      refine P_goto 23 d_MD_isPoint_19 (by decide) ?_
      exact P_zret d_MD_isPoint_23 rfl rfl (le_b rfl) (le_b rfl) ⟨by rw [inN_tN ic2 (by omega)]; rfl, rfl⟩
theorem s_MD_isThird {G : pG} {w : pW} (a : Int32) : PM G M_MD_isThird 0 0 0 [.int a] w (fun r w' => r = some (.int (bi (inN 3 a))) ∧ w' = w) := by
  refine PM_of pn_MD_isThird (le_b rfl) ?_
  show PW _ _ _ _ _ _ (0, [(0, .int a)], [], w)
  refine P_iload_n d_MD_isThird_0 rfl ?_
  refine P_if_lt 13 d_MD_isThird_1 (by decide) (fun c1 => ?_) (fun c1 => ?_)
  · refine P_iconst (v := 0) d_MD_isThird_13 (by decide) ?_
    exact P_zret d_MD_isThird_14 rfl rfl (le_b rfl) (le_b rfl) ⟨by rw [inN_f1 c1]; rfl, rfl⟩
  · refine P_iload_n d_MD_isThird_4 rfl ?_
    refine P_iconst (v := 2) d_MD_isThird_5 (by decide) ?_
    refine P_icmp_gt 13 d_MD_isThird_6 (by decide) (fun c2 => ?_) (fun c2 => ?_)
    · refine P_iconst (v := 0) d_MD_isThird_13 (by decide) ?_
      exact P_zret d_MD_isThird_14 rfl rfl (le_b rfl) (le_b rfl) ⟨by rw [inN_f2 (third_3 c2)]; rfl, rfl⟩
    · obtain ⟨aN, haN, rfl⟩ := nI_of_gt (n := 2) c1 c2 rfl
      refine P_iconst (v := 1) d_MD_isThird_9 (by decide) ?_
      refine P_goto 14 d_MD_isThird_10 (by decide) ?_
      exact P_zret d_MD_isThird_14 rfl rfl (le_b rfl) (le_b rfl) ⟨by rw [inN_t c1 (fun h => c2 (Int32.lt_of_lt_of_le (by decide) h))]; rfl, rfl⟩
theorem s_MD_areEdges {G : pG} {w : pW} (x : Int32) (y : Int32) (z : Int32) : PM G M_MD_areEdges 1 0 0 [.int x, .int y, .int z] w (fun r w' => (∃ v, r = some (.int (bi v))) ∧ w' = w) := by
  refine PM_of pn_MD_areEdges (le_b rfl) ?_
  show PW _ _ _ _ _ _ (0, [(0, .int x), (1, .int y), (2, .int z)], [], w)
  refine P_iload_n d_MD_areEdges_0 rfl ?_
  refine P_callS (M := M_MD_areEdges) (pc := 1) (as := [.int x]) d_MD_areEdges_1 co_MD_isEdge L_MD_289 sm_MD_isEdge (v_MD_isEdge x) rfl ⟨by decide, by decide⟩ ⟨by decide, by decide⟩ (by exact le_b rfl) ?_ _ rfl
  rintro _ u ⟨rfl, eu⟩
  subst u
  show PW _ _ _ _ _ _ (4, [(0, .int x), (1, .int y), (2, .int z)], [.int (bi (edge x))], w)
  refine P_if_eq 37 d_MD_areEdges_4 (by decide) (fun c1 => ?_) (fun c1 => ?_)
  · refine P_iconst (v := 0) d_MD_areEdges_37 (by decide) ?_
    exact P_zret d_MD_areEdges_38 rfl rfl (le_b rfl) (le_b rfl) ⟨⟨false, rfl⟩, rfl⟩
  · refine P_iload_n d_MD_areEdges_7 rfl ?_
    refine P_callS (M := M_MD_areEdges) (pc := 8) (as := [.int y]) d_MD_areEdges_8 co_MD_isEdge L_MD_289 sm_MD_isEdge (v_MD_isEdge y) rfl ⟨by decide, by decide⟩ ⟨by decide, by decide⟩ (by exact le_b rfl) ?_ _ rfl
    rintro _ u ⟨rfl, eu⟩
    subst u
    show PW _ _ _ _ _ _ (11, [(0, .int x), (1, .int y), (2, .int z)], [.int (bi (edge y))], w)
    refine P_if_eq 37 d_MD_areEdges_11 (by decide) (fun c2 => ?_) (fun c2 => ?_)
    · refine P_iconst (v := 0) d_MD_areEdges_37 (by decide) ?_
      exact P_zret d_MD_areEdges_38 rfl rfl (le_b rfl) (le_b rfl) ⟨⟨false, rfl⟩, rfl⟩
    · refine P_iload_n d_MD_areEdges_14 rfl ?_
      refine P_callS (M := M_MD_areEdges) (pc := 15) (as := [.int z]) d_MD_areEdges_15 co_MD_isEdge L_MD_289 sm_MD_isEdge (v_MD_isEdge z) rfl ⟨by decide, by decide⟩ ⟨by decide, by decide⟩ (by exact le_b rfl) ?_ _ rfl
      rintro _ u ⟨rfl, eu⟩
      subst u
      show PW _ _ _ _ _ _ (18, [(0, .int x), (1, .int y), (2, .int z)], [.int (bi (edge z))], w)
      refine P_if_eq 37 d_MD_areEdges_18 (by decide) (fun c3 => ?_) (fun c3 => ?_)
      · refine P_iconst (v := 0) d_MD_areEdges_37 (by decide) ?_
        exact P_zret d_MD_areEdges_38 rfl rfl (le_b rfl) (le_b rfl) ⟨⟨false, rfl⟩, rfl⟩
      · refine P_iload_n d_MD_areEdges_21 rfl ?_
        refine P_if_ne 33 d_MD_areEdges_22 (by decide) (fun c4 => ?_) (fun c4 => ?_)
        · refine P_iconst (v := 1) d_MD_areEdges_33 (by decide) ?_
          refine P_goto 38 d_MD_areEdges_34 (by decide) ?_
          exact P_zret d_MD_areEdges_38 rfl rfl (le_b rfl) (le_b rfl) ⟨⟨true, rfl⟩, rfl⟩
        · refine P_iload_n d_MD_areEdges_25 rfl ?_
          refine P_if_ne 33 d_MD_areEdges_26 (by decide) (fun c5 => ?_) (fun c5 => ?_)
          · refine P_iconst (v := 1) d_MD_areEdges_33 (by decide) ?_
            refine P_goto 38 d_MD_areEdges_34 (by decide) ?_
            exact P_zret d_MD_areEdges_38 rfl rfl (le_b rfl) (le_b rfl) ⟨⟨true, rfl⟩, rfl⟩
          · refine P_iload_n d_MD_areEdges_29 rfl ?_
            refine P_if_eq 37 d_MD_areEdges_30 (by decide) (fun c6 => ?_) (fun c6 => ?_)
            · refine P_iconst (v := 0) d_MD_areEdges_37 (by decide) ?_
              exact P_zret d_MD_areEdges_38 rfl rfl (le_b rfl) (le_b rfl) ⟨⟨false, rfl⟩, rfl⟩
            · refine P_iconst (v := 1) d_MD_areEdges_33 (by decide) ?_
              refine P_goto 38 d_MD_areEdges_34 (by decide) ?_
              exact P_zret d_MD_areEdges_38 rfl rfl (le_b rfl) (le_b rfl) ⟨⟨true, rfl⟩, rfl⟩
theorem s_MD_multiplies {G : pG} {w : pW} {o : Nat} {fo : Nat → Int64} (ho : w.2 o = .inl (1, 9, .inr (.inl fo))) (hxo : o < 1000000) {p : Nat} {fp : Nat → Int64} (hp : w.2 p = .inl (1, 9, .inr (.inl fp))) {q : Nat} {fq : Nat → Int64} (hq : w.2 q = .inl (1, 9, .inr (.inl fq))) (np : p ≠ o) (nq : q ≠ o) : PM G M_MD_multiplies 0 0 0 [.ref o, .ref p, .ref q] w (fun r w' => r = none ∧ W1 o 9 w w') := by
  refine PM_of pn_MD_multiplies (le_b rfl) ?_
  show PW _ _ _ _ _ _ (0, [(0, .ref o), (1, .ref p), (2, .ref q)], [], w)
  have hW0 : W1 o 9 w w := W1.rf ho
  refine P_iconst (v := 0) d_MD_multiplies_0 (by decide) ?_
  refine P_istore_n d_MD_multiplies_1 (by decide) rfl ?_
  refine PW_ind (σ := pW) (3) (fun jj ss => W1 o 9 w (ss)) (fun jj ss => (2, [(0, .ref o), (1, .ref p), (2, .ref q), (3, .int (nI jj))], [], ss)) ?_ ?_ 0 (w) (by omega) (hW0)
  · rintro uj1 hWj1
    obtain ⟨f2, f2e⟩ := W1.at hWj1
    show PW _ _ _ _ _ _ (2, [(0, .ref o), (1, .ref p), (2, .ref q), (3, .int 3)], [], uj1)
    refine P_iload_n d_MD_multiplies_2 rfl ?_
    refine P_iconst (v := 3) d_MD_multiplies_3 (by decide) ?_
    refine P_icmp_ge 77 d_MD_multiplies_4 (by decide) (fun _ => ?_) (fun h => absurd (by decide) h)
    exact P_vret d_MD_multiplies_77 rfl (le_b rfl) (le_b rfl) ⟨rfl, hWj1⟩
  · rintro j1 uj1 hj1 hWj1 kkj1
    obtain ⟨f3, f3e⟩ := W1.at hWj1
    show PW _ _ _ _ _ _ (2, [(0, .ref o), (1, .ref p), (2, .ref q), (3, .int (nI j1))], [], uj1)
    refine P_iload_n d_MD_multiplies_2 rfl ?_
    refine P_iconst (v := 3) d_MD_multiplies_3 (by decide) ?_
    refine P_icmp_ge 77 d_MD_multiplies_4 (by decide) (fun h => absurd h (nI_geF (a := j1) (b := 3) (by omega) (by omega))) (fun _ => ?_)
    refine P_iconst (v := 0) d_MD_multiplies_7 (by decide) ?_
    refine P_istore d_MD_multiplies_8 (by decide) rfl ?_
    refine PW_ind (σ := pW) (3) (fun jj ss => W1 o 9 w (ss)) (fun jj ss => (10, [(0, .ref o), (1, .ref p), (2, .ref q), (3, .int (nI j1)), (4, .int (nI jj))], [], ss)) ?_ ?_ 0 (uj1) (by omega) (hWj1)
    · rintro uj4 hWj4
      obtain ⟨f5, f5e⟩ := W1.at hWj4
      show PW _ _ _ _ _ _ (10, [(0, .ref o), (1, .ref p), (2, .ref q), (3, .int (nI j1)), (4, .int 3)], [], uj4)
      refine P_iload d_MD_multiplies_10 rfl ?_
      refine P_iconst (v := 3) d_MD_multiplies_12 (by decide) ?_
      refine P_icmp_ge 71 d_MD_multiplies_13 (by decide) (fun _ => ?_) (fun h => absurd (by decide) h)
      refine P_iinc (v := nI (j1 + 1)) d_MD_multiplies_71 (by decide) rfl (nI_add j1 1) rfl ?_
      refine P_goto 2 d_MD_multiplies_74 (by decide) ?_
      show PW _ _ _ _ _ _ (2, [(0, .ref o), (1, .ref p), (2, .ref q), (3, .int (nI (j1 + 1))), (4, .int 3)], [], uj4)
      refine PW.drop (lv' := [(0, .ref o), (1, .ref p), (2, .ref q), (3, .int (nI (j1 + 1)))]) (by simp) ?_
      exact kkj1 (uj4) (hWj4)
    · rintro j4 uj4 hj4 hWj4 kkj4
      obtain ⟨f6, f6e⟩ := W1.at hWj4
      show PW _ _ _ _ _ _ (10, [(0, .ref o), (1, .ref p), (2, .ref q), (3, .int (nI j1)), (4, .int (nI j4))], [], uj4)
      refine P_iload d_MD_multiplies_10 rfl ?_
      refine P_iconst (v := 3) d_MD_multiplies_12 (by decide) ?_
      refine P_icmp_ge 71 d_MD_multiplies_13 (by decide) (fun h => absurd h (nI_geF (a := j4) (b := 3) (by omega) (by omega))) (fun _ => ?_)
      refine P_aload_n d_MD_multiplies_16 rfl ?_
      refine P_iconst (v := 3) d_MD_multiplies_17 (by decide) ?_
      refine P_iload_n d_MD_multiplies_18 rfl ?_
      refine P_imulN (a := 3) (b := j1) d_MD_multiplies_19 ?_
      show PW _ _ _ _ _ _ (20, [(0, .ref o), (1, .ref p), (2, .ref q), (3, .int (nI j1)), (4, .int (nI j4))], [.int (nI (3 * j1)), .ref o], uj4)
      refine P_iload d_MD_multiplies_20 rfl ?_
      refine P_iaddN (a := (3 * j1)) (b := j4) d_MD_multiplies_22 ?_
      show PW _ _ _ _ _ _ (23, [(0, .ref o), (1, .ref p), (2, .ref q), (3, .int (nI j1)), (4, .int (nI j4))], [.int (nI ((3 * j1) + j4)), .ref o], uj4)
      refine P_aload_n d_MD_multiplies_23 rfl ?_
      refine P_iconst (v := 3) d_MD_multiplies_24 (by decide) ?_
      refine P_iload_n d_MD_multiplies_25 rfl ?_
      refine P_imulN (a := 3) (b := j1) d_MD_multiplies_26 ?_
      show PW _ _ _ _ _ _ (27, [(0, .ref o), (1, .ref p), (2, .ref q), (3, .int (nI j1)), (4, .int (nI j4))], [.int (nI (3 * j1)), .ref p, .int (nI ((3 * j1) + j4)), .ref o], uj4)
      refine P_lald (j := 3 * j1) d_MD_multiplies_27 ((W1.ne hWj4 _ np).trans hp) (ix_nI (by omega)) (by omega) ?_
      refine P_aload_n d_MD_multiplies_28 rfl ?_
      refine P_iload d_MD_multiplies_29 rfl ?_
      refine P_lald (j := j4) d_MD_multiplies_31 ((W1.ne hWj4 _ nq).trans hq) (ix_nI (by omega)) (by omega) ?_
      refine P_lmul d_MD_multiplies_32 ?_
      refine P_aload_n d_MD_multiplies_33 rfl ?_
      refine P_iconst (v := 3) d_MD_multiplies_34 (by decide) ?_
      refine P_iload_n d_MD_multiplies_35 rfl ?_
      refine P_imulN (a := 3) (b := j1) d_MD_multiplies_36 ?_
      show PW _ _ _ _ _ _ (37, [(0, .ref o), (1, .ref p), (2, .ref q), (3, .int (nI j1)), (4, .int (nI j4))], [.int (nI (3 * j1)), .ref p, .long ((fp (3 * j1)) * (fq j4)), .int (nI ((3 * j1) + j4)), .ref o], uj4)
      refine P_iconst (v := 1) d_MD_multiplies_37 (by decide) ?_
      refine P_iaddN (a := (3 * j1)) (b := 1) d_MD_multiplies_38 ?_
      show PW _ _ _ _ _ _ (39, [(0, .ref o), (1, .ref p), (2, .ref q), (3, .int (nI j1)), (4, .int (nI j4))], [.int (nI ((3 * j1) + 1)), .ref p, .long ((fp (3 * j1)) * (fq j4)), .int (nI ((3 * j1) + j4)), .ref o], uj4)
      refine P_lald (j := (3 * j1) + 1) d_MD_multiplies_39 ((W1.ne hWj4 _ np).trans hp) (ix_nI (by omega)) (by omega) ?_
      refine P_aload_n d_MD_multiplies_40 rfl ?_
      refine P_iconst (v := 3) d_MD_multiplies_41 (by decide) ?_
      refine P_iload d_MD_multiplies_42 rfl ?_
      refine P_iaddN (a := 3) (b := j4) d_MD_multiplies_44 ?_
      show PW _ _ _ _ _ _ (45, [(0, .ref o), (1, .ref p), (2, .ref q), (3, .int (nI j1)), (4, .int (nI j4))], [.int (nI (3 + j4)), .ref q, .long (fp ((3 * j1) + 1)), .long ((fp (3 * j1)) * (fq j4)), .int (nI ((3 * j1) + j4)), .ref o], uj4)
      refine P_lald (j := 3 + j4) d_MD_multiplies_45 ((W1.ne hWj4 _ nq).trans hq) (ix_nI (by omega)) (by omega) ?_
      refine P_lmul d_MD_multiplies_46 ?_
      refine P_ladd d_MD_multiplies_47 ?_
      generalize ((fp (3 * j1)) * (fq j4)) + ((fp ((3 * j1) + 1)) * (fq (3 + j4))) = zz7
      show PW _ _ _ _ _ _ (48, [(0, .ref o), (1, .ref p), (2, .ref q), (3, .int (nI j1)), (4, .int (nI j4))], [.long zz7, .int (nI ((3 * j1) + j4)), .ref o], uj4)
      refine P_aload_n d_MD_multiplies_48 rfl ?_
      refine P_iconst (v := 3) d_MD_multiplies_49 (by decide) ?_
      refine P_iload_n d_MD_multiplies_50 rfl ?_
      refine P_imulN (a := 3) (b := j1) d_MD_multiplies_51 ?_
      show PW _ _ _ _ _ _ (52, [(0, .ref o), (1, .ref p), (2, .ref q), (3, .int (nI j1)), (4, .int (nI j4))], [.int (nI (3 * j1)), .ref p, .long zz7, .int (nI ((3 * j1) + j4)), .ref o], uj4)
      refine P_iconst (v := 2) d_MD_multiplies_52 (by decide) ?_
      refine P_iaddN (a := (3 * j1)) (b := 2) d_MD_multiplies_53 ?_
      show PW _ _ _ _ _ _ (54, [(0, .ref o), (1, .ref p), (2, .ref q), (3, .int (nI j1)), (4, .int (nI j4))], [.int (nI ((3 * j1) + 2)), .ref p, .long zz7, .int (nI ((3 * j1) + j4)), .ref o], uj4)
      refine P_lald (j := (3 * j1) + 2) d_MD_multiplies_54 ((W1.ne hWj4 _ np).trans hp) (ix_nI (by omega)) (by omega) ?_
      refine P_aload_n d_MD_multiplies_55 rfl ?_
      refine P_bipush (v := 6) d_MD_multiplies_56 (by decide) ?_
      refine P_iload d_MD_multiplies_58 rfl ?_
      refine P_iaddN (a := 6) (b := j4) d_MD_multiplies_60 ?_
      show PW _ _ _ _ _ _ (61, [(0, .ref o), (1, .ref p), (2, .ref q), (3, .int (nI j1)), (4, .int (nI j4))], [.int (nI (6 + j4)), .ref q, .long (fp ((3 * j1) + 2)), .long zz7, .int (nI ((3 * j1) + j4)), .ref o], uj4)
      refine P_lald (j := 6 + j4) d_MD_multiplies_61 ((W1.ne hWj4 _ nq).trans hq) (ix_nI (by omega)) (by omega) ?_
      refine P_lmul d_MD_multiplies_62 ?_
      refine P_ladd d_MD_multiplies_63 ?_
      refine P_lastG (j := (3 * j1) + j4) d_MD_multiplies_64 f6e hxo (ix_nI (by omega)) (by omega) (fun w8 e8 s8 n8 z8 => ?_)
      generalize vp_updL _ _ _ = g9 at e8 s8
      have hW8 : W1 o 9 w w8 := W1.st hWj4 e8
      show PW _ _ _ _ _ _ (65, [(0, .ref o), (1, .ref p), (2, .ref q), (3, .int (nI j1)), (4, .int (nI j4))], [], w8)
      refine P_iinc (v := nI (j4 + 1)) d_MD_multiplies_65 (by decide) rfl (nI_add j4 1) rfl ?_
      refine P_goto 10 d_MD_multiplies_68 (by decide) ?_
      exact kkj4 (w8) (hW8)
theorem s_MD_turnsRound {G : pG} {w : pW} {o : Nat} {fo : Nat → Int64} (ho : w.2 o = .inl (1, 9, .inr (.inl fo))) (hxo : o < 1000000) {p : Nat} {fp : Nat → Int64} (hp : w.2 p = .inl (1, 9, .inr (.inl fp))) (np : p ≠ o) : PM G M_MD_turnsRound 0 0 0 [.ref o, .ref p] w (fun r w' => r = none ∧ W1 o 9 w w') := by
  refine PM_of pn_MD_turnsRound (le_b rfl) ?_
  show PW _ _ _ _ _ _ (0, [(0, .ref o), (1, .ref p)], [], w)
  have hW0 : W1 o 9 w w := W1.rf ho
  refine P_iconst (v := 0) d_MD_turnsRound_0 (by decide) ?_
  refine P_istore_n d_MD_turnsRound_1 (by decide) rfl ?_
  refine PW_ind (σ := pW) (3) (fun jj ss => W1 o 9 w (ss)) (fun jj ss => (2, [(0, .ref o), (1, .ref p), (2, .int (nI jj))], [], ss)) ?_ ?_ 0 (w) (by omega) (hW0)
  · rintro uj1 hWj1
    obtain ⟨f2, f2e⟩ := W1.at hWj1
    show PW _ _ _ _ _ _ (2, [(0, .ref o), (1, .ref p), (2, .int 3)], [], uj1)
    refine P_iload_n d_MD_turnsRound_2 rfl ?_
    refine P_iconst (v := 3) d_MD_turnsRound_3 (by decide) ?_
    refine P_icmp_ge 102 d_MD_turnsRound_4 (by decide) (fun _ => ?_) (fun h => absurd (by decide) h)
    exact P_vret d_MD_turnsRound_102 rfl (le_b rfl) (le_b rfl) ⟨rfl, hWj1⟩
  · rintro j1 uj1 hj1 hWj1 kkj1
    obtain ⟨f3, f3e⟩ := W1.at hWj1
    show PW _ _ _ _ _ _ (2, [(0, .ref o), (1, .ref p), (2, .int (nI j1))], [], uj1)
    refine P_iload_n d_MD_turnsRound_2 rfl ?_
    refine P_iconst (v := 3) d_MD_turnsRound_3 (by decide) ?_
    refine P_icmp_ge 102 d_MD_turnsRound_4 (by decide) (fun h => absurd h (nI_geF (a := j1) (b := 3) (by omega) (by omega))) (fun _ => ?_)
    refine P_iload_n d_MD_turnsRound_7 rfl ?_
    refine P_iconst (v := 1) d_MD_turnsRound_8 (by decide) ?_
    refine P_iaddN (a := j1) (b := 1) d_MD_turnsRound_9 ?_
    show PW _ _ _ _ _ _ (10, [(0, .ref o), (1, .ref p), (2, .int (nI j1))], [.int (nI (j1 + 1))], uj1)
    refine P_iconst (v := 3) d_MD_turnsRound_10 (by decide) ?_
    refine P_iremN (a := (j1 + 1)) (b := 3) d_MD_turnsRound_11 (by omega) (by omega) (by omega) ?_
    show PW _ _ _ _ _ _ (12, [(0, .ref o), (1, .ref p), (2, .int (nI j1))], [.int (nI ((j1 + 1) % 3))], uj1)
    refine P_istore_n d_MD_turnsRound_12 (by decide) rfl ?_
    refine P_iload_n d_MD_turnsRound_13 rfl ?_
    refine P_iconst (v := 2) d_MD_turnsRound_14 (by decide) ?_
    refine P_iaddN (a := j1) (b := 2) d_MD_turnsRound_15 ?_
    show PW _ _ _ _ _ _ (16, [(0, .ref o), (1, .ref p), (2, .int (nI j1)), (3, .int (nI ((j1 + 1) % 3)))], [.int (nI (j1 + 2))], uj1)
    refine P_iconst (v := 3) d_MD_turnsRound_16 (by decide) ?_
    refine P_iremN (a := (j1 + 2)) (b := 3) d_MD_turnsRound_17 (by omega) (by omega) (by omega) ?_
    show PW _ _ _ _ _ _ (18, [(0, .ref o), (1, .ref p), (2, .int (nI j1)), (3, .int (nI ((j1 + 1) % 3)))], [.int (nI ((j1 + 2) % 3))], uj1)
    refine P_istore d_MD_turnsRound_18 (by decide) rfl ?_
    refine P_iconst (v := 0) d_MD_turnsRound_20 (by decide) ?_
    refine P_istore d_MD_turnsRound_21 (by decide) rfl ?_
    refine PW_ind (σ := pW) (3) (fun jj ss => W1 o 9 w (ss)) (fun jj ss => (23, [(0, .ref o), (1, .ref p), (2, .int (nI j1)), (3, .int (nI ((j1 + 1) % 3))), (4, .int (nI ((j1 + 2) % 3))), (5, .int (nI jj))], [], ss)) ?_ ?_ 0 (uj1) (by omega) (hWj1)
    · rintro uj4 hWj4
      obtain ⟨f5, f5e⟩ := W1.at hWj4
      show PW _ _ _ _ _ _ (23, [(0, .ref o), (1, .ref p), (2, .int (nI j1)), (3, .int (nI ((j1 + 1) % 3))), (4, .int (nI ((j1 + 2) % 3))), (5, .int 3)], [], uj4)
      refine P_iload d_MD_turnsRound_23 rfl ?_
      refine P_iconst (v := 3) d_MD_turnsRound_25 (by decide) ?_
      refine P_icmp_ge 96 d_MD_turnsRound_26 (by decide) (fun _ => ?_) (fun h => absurd (by decide) h)
      refine P_iinc (v := nI (j1 + 1)) d_MD_turnsRound_96 (by decide) rfl (nI_add j1 1) rfl ?_
      refine P_goto 2 d_MD_turnsRound_99 (by decide) ?_
      show PW _ _ _ _ _ _ (2, [(0, .ref o), (1, .ref p), (2, .int (nI (j1 + 1))), (3, .int (nI ((j1 + 1) % 3))), (4, .int (nI ((j1 + 2) % 3))), (5, .int 3)], [], uj4)
      refine PW.drop (lv' := [(0, .ref o), (1, .ref p), (2, .int (nI (j1 + 1)))]) (by simp) ?_
      exact kkj1 (uj4) (hWj4)
    · rintro j4 uj4 hj4 hWj4 kkj4
      obtain ⟨f6, f6e⟩ := W1.at hWj4
      show PW _ _ _ _ _ _ (23, [(0, .ref o), (1, .ref p), (2, .int (nI j1)), (3, .int (nI ((j1 + 1) % 3))), (4, .int (nI ((j1 + 2) % 3))), (5, .int (nI j4))], [], uj4)
      refine P_iload d_MD_turnsRound_23 rfl ?_
      refine P_iconst (v := 3) d_MD_turnsRound_25 (by decide) ?_
      refine P_icmp_ge 96 d_MD_turnsRound_26 (by decide) (fun h => absurd h (nI_geF (a := j4) (b := 3) (by omega) (by omega))) (fun _ => ?_)
      refine P_iload d_MD_turnsRound_29 rfl ?_
      refine P_iconst (v := 1) d_MD_turnsRound_31 (by decide) ?_
      refine P_iaddN (a := j4) (b := 1) d_MD_turnsRound_32 ?_
      show PW _ _ _ _ _ _ (33, [(0, .ref o), (1, .ref p), (2, .int (nI j1)), (3, .int (nI ((j1 + 1) % 3))), (4, .int (nI ((j1 + 2) % 3))), (5, .int (nI j4))], [.int (nI (j4 + 1))], uj4)
      refine P_iconst (v := 3) d_MD_turnsRound_33 (by decide) ?_
      refine P_iremN (a := (j4 + 1)) (b := 3) d_MD_turnsRound_34 (by omega) (by omega) (by omega) ?_
      show PW _ _ _ _ _ _ (35, [(0, .ref o), (1, .ref p), (2, .int (nI j1)), (3, .int (nI ((j1 + 1) % 3))), (4, .int (nI ((j1 + 2) % 3))), (5, .int (nI j4))], [.int (nI ((j4 + 1) % 3))], uj4)
      refine P_istore d_MD_turnsRound_35 (by decide) rfl ?_
      refine P_iload d_MD_turnsRound_37 rfl ?_
      refine P_iconst (v := 2) d_MD_turnsRound_39 (by decide) ?_
      refine P_iaddN (a := j4) (b := 2) d_MD_turnsRound_40 ?_
      show PW _ _ _ _ _ _ (41, [(0, .ref o), (1, .ref p), (2, .int (nI j1)), (3, .int (nI ((j1 + 1) % 3))), (4, .int (nI ((j1 + 2) % 3))), (5, .int (nI j4)), (6, .int (nI ((j4 + 1) % 3)))], [.int (nI (j4 + 2))], uj4)
      refine P_iconst (v := 3) d_MD_turnsRound_41 (by decide) ?_
      refine P_iremN (a := (j4 + 2)) (b := 3) d_MD_turnsRound_42 (by omega) (by omega) (by omega) ?_
      show PW _ _ _ _ _ _ (43, [(0, .ref o), (1, .ref p), (2, .int (nI j1)), (3, .int (nI ((j1 + 1) % 3))), (4, .int (nI ((j1 + 2) % 3))), (5, .int (nI j4)), (6, .int (nI ((j4 + 1) % 3)))], [.int (nI ((j4 + 2) % 3))], uj4)
      refine P_istore d_MD_turnsRound_43 (by decide) rfl ?_
      refine P_aload_n d_MD_turnsRound_45 rfl ?_
      refine P_iconst (v := 3) d_MD_turnsRound_46 (by decide) ?_
      refine P_iload d_MD_turnsRound_47 rfl ?_
      refine P_imulN (a := 3) (b := j4) d_MD_turnsRound_49 ?_
      show PW _ _ _ _ _ _ (50, [(0, .ref o), (1, .ref p), (2, .int (nI j1)), (3, .int (nI ((j1 + 1) % 3))), (4, .int (nI ((j1 + 2) % 3))), (5, .int (nI j4)), (6, .int (nI ((j4 + 1) % 3))), (7, .int (nI ((j4 + 2) % 3)))], [.int (nI (3 * j4)), .ref o], uj4)
      refine P_iload_n d_MD_turnsRound_50 rfl ?_
      refine P_iaddN (a := (3 * j4)) (b := j1) d_MD_turnsRound_51 ?_
      show PW _ _ _ _ _ _ (52, [(0, .ref o), (1, .ref p), (2, .int (nI j1)), (3, .int (nI ((j1 + 1) % 3))), (4, .int (nI ((j1 + 2) % 3))), (5, .int (nI j4)), (6, .int (nI ((j4 + 1) % 3))), (7, .int (nI ((j4 + 2) % 3)))], [.int (nI ((3 * j4) + j1)), .ref o], uj4)
      refine P_aload_n d_MD_turnsRound_52 rfl ?_
      refine P_iconst (v := 3) d_MD_turnsRound_53 (by decide) ?_
      refine P_iload_n d_MD_turnsRound_54 rfl ?_
      refine P_imulN (a := 3) (b := ((j1 + 1) % 3)) d_MD_turnsRound_55 ?_
      show PW _ _ _ _ _ _ (56, [(0, .ref o), (1, .ref p), (2, .int (nI j1)), (3, .int (nI ((j1 + 1) % 3))), (4, .int (nI ((j1 + 2) % 3))), (5, .int (nI j4)), (6, .int (nI ((j4 + 1) % 3))), (7, .int (nI ((j4 + 2) % 3)))], [.int (nI (3 * ((j1 + 1) % 3))), .ref p, .int (nI ((3 * j4) + j1)), .ref o], uj4)
      refine P_iload d_MD_turnsRound_56 rfl ?_
      refine P_iaddN (a := (3 * ((j1 + 1) % 3))) (b := ((j4 + 1) % 3)) d_MD_turnsRound_58 ?_
      show PW _ _ _ _ _ _ (59, [(0, .ref o), (1, .ref p), (2, .int (nI j1)), (3, .int (nI ((j1 + 1) % 3))), (4, .int (nI ((j1 + 2) % 3))), (5, .int (nI j4)), (6, .int (nI ((j4 + 1) % 3))), (7, .int (nI ((j4 + 2) % 3)))], [.int (nI ((3 * ((j1 + 1) % 3)) + ((j4 + 1) % 3))), .ref p, .int (nI ((3 * j4) + j1)), .ref o], uj4)
      refine P_lald (j := (3 * ((j1 + 1) % 3)) + ((j4 + 1) % 3)) d_MD_turnsRound_59 ((W1.ne hWj4 _ np).trans hp) (ix_nI (by omega)) (by omega) ?_
      refine P_aload_n d_MD_turnsRound_60 rfl ?_
      refine P_iconst (v := 3) d_MD_turnsRound_61 (by decide) ?_
      refine P_iload d_MD_turnsRound_62 rfl ?_
      refine P_imulN (a := 3) (b := ((j1 + 2) % 3)) d_MD_turnsRound_64 ?_
      show PW _ _ _ _ _ _ (65, [(0, .ref o), (1, .ref p), (2, .int (nI j1)), (3, .int (nI ((j1 + 1) % 3))), (4, .int (nI ((j1 + 2) % 3))), (5, .int (nI j4)), (6, .int (nI ((j4 + 1) % 3))), (7, .int (nI ((j4 + 2) % 3)))], [.int (nI (3 * ((j1 + 2) % 3))), .ref p, .long (fp ((3 * ((j1 + 1) % 3)) + ((j4 + 1) % 3))), .int (nI ((3 * j4) + j1)), .ref o], uj4)
      refine P_iload d_MD_turnsRound_65 rfl ?_
      refine P_iaddN (a := (3 * ((j1 + 2) % 3))) (b := ((j4 + 2) % 3)) d_MD_turnsRound_67 ?_
      show PW _ _ _ _ _ _ (68, [(0, .ref o), (1, .ref p), (2, .int (nI j1)), (3, .int (nI ((j1 + 1) % 3))), (4, .int (nI ((j1 + 2) % 3))), (5, .int (nI j4)), (6, .int (nI ((j4 + 1) % 3))), (7, .int (nI ((j4 + 2) % 3)))], [.int (nI ((3 * ((j1 + 2) % 3)) + ((j4 + 2) % 3))), .ref p, .long (fp ((3 * ((j1 + 1) % 3)) + ((j4 + 1) % 3))), .int (nI ((3 * j4) + j1)), .ref o], uj4)
      refine P_lald (j := (3 * ((j1 + 2) % 3)) + ((j4 + 2) % 3)) d_MD_turnsRound_68 ((W1.ne hWj4 _ np).trans hp) (ix_nI (by omega)) (by omega) ?_
      refine P_lmul d_MD_turnsRound_69 ?_
      generalize (fp ((3 * ((j1 + 1) % 3)) + ((j4 + 1) % 3))) * (fp ((3 * ((j1 + 2) % 3)) + ((j4 + 2) % 3))) = zz7
      show PW _ _ _ _ _ _ (70, [(0, .ref o), (1, .ref p), (2, .int (nI j1)), (3, .int (nI ((j1 + 1) % 3))), (4, .int (nI ((j1 + 2) % 3))), (5, .int (nI j4)), (6, .int (nI ((j4 + 1) % 3))), (7, .int (nI ((j4 + 2) % 3)))], [.long zz7, .int (nI ((3 * j4) + j1)), .ref o], uj4)
      refine P_aload_n d_MD_turnsRound_70 rfl ?_
      refine P_iconst (v := 3) d_MD_turnsRound_71 (by decide) ?_
      refine P_iload_n d_MD_turnsRound_72 rfl ?_
      refine P_imulN (a := 3) (b := ((j1 + 1) % 3)) d_MD_turnsRound_73 ?_
      show PW _ _ _ _ _ _ (74, [(0, .ref o), (1, .ref p), (2, .int (nI j1)), (3, .int (nI ((j1 + 1) % 3))), (4, .int (nI ((j1 + 2) % 3))), (5, .int (nI j4)), (6, .int (nI ((j4 + 1) % 3))), (7, .int (nI ((j4 + 2) % 3)))], [.int (nI (3 * ((j1 + 1) % 3))), .ref p, .long zz7, .int (nI ((3 * j4) + j1)), .ref o], uj4)
      refine P_iload d_MD_turnsRound_74 rfl ?_
      refine P_iaddN (a := (3 * ((j1 + 1) % 3))) (b := ((j4 + 2) % 3)) d_MD_turnsRound_76 ?_
      show PW _ _ _ _ _ _ (77, [(0, .ref o), (1, .ref p), (2, .int (nI j1)), (3, .int (nI ((j1 + 1) % 3))), (4, .int (nI ((j1 + 2) % 3))), (5, .int (nI j4)), (6, .int (nI ((j4 + 1) % 3))), (7, .int (nI ((j4 + 2) % 3)))], [.int (nI ((3 * ((j1 + 1) % 3)) + ((j4 + 2) % 3))), .ref p, .long zz7, .int (nI ((3 * j4) + j1)), .ref o], uj4)
      refine P_lald (j := (3 * ((j1 + 1) % 3)) + ((j4 + 2) % 3)) d_MD_turnsRound_77 ((W1.ne hWj4 _ np).trans hp) (ix_nI (by omega)) (by omega) ?_
      refine P_aload_n d_MD_turnsRound_78 rfl ?_
      refine P_iconst (v := 3) d_MD_turnsRound_79 (by decide) ?_
      refine P_iload d_MD_turnsRound_80 rfl ?_
      refine P_imulN (a := 3) (b := ((j1 + 2) % 3)) d_MD_turnsRound_82 ?_
      show PW _ _ _ _ _ _ (83, [(0, .ref o), (1, .ref p), (2, .int (nI j1)), (3, .int (nI ((j1 + 1) % 3))), (4, .int (nI ((j1 + 2) % 3))), (5, .int (nI j4)), (6, .int (nI ((j4 + 1) % 3))), (7, .int (nI ((j4 + 2) % 3)))], [.int (nI (3 * ((j1 + 2) % 3))), .ref p, .long (fp ((3 * ((j1 + 1) % 3)) + ((j4 + 2) % 3))), .long zz7, .int (nI ((3 * j4) + j1)), .ref o], uj4)
      refine P_iload d_MD_turnsRound_83 rfl ?_
      refine P_iaddN (a := (3 * ((j1 + 2) % 3))) (b := ((j4 + 1) % 3)) d_MD_turnsRound_85 ?_
      show PW _ _ _ _ _ _ (86, [(0, .ref o), (1, .ref p), (2, .int (nI j1)), (3, .int (nI ((j1 + 1) % 3))), (4, .int (nI ((j1 + 2) % 3))), (5, .int (nI j4)), (6, .int (nI ((j4 + 1) % 3))), (7, .int (nI ((j4 + 2) % 3)))], [.int (nI ((3 * ((j1 + 2) % 3)) + ((j4 + 1) % 3))), .ref p, .long (fp ((3 * ((j1 + 1) % 3)) + ((j4 + 2) % 3))), .long zz7, .int (nI ((3 * j4) + j1)), .ref o], uj4)
      refine P_lald (j := (3 * ((j1 + 2) % 3)) + ((j4 + 1) % 3)) d_MD_turnsRound_86 ((W1.ne hWj4 _ np).trans hp) (ix_nI (by omega)) (by omega) ?_
      refine P_lmul d_MD_turnsRound_87 ?_
      generalize (fp ((3 * ((j1 + 1) % 3)) + ((j4 + 2) % 3))) * (fp ((3 * ((j1 + 2) % 3)) + ((j4 + 1) % 3))) = zz8
      show PW _ _ _ _ _ _ (88, [(0, .ref o), (1, .ref p), (2, .int (nI j1)), (3, .int (nI ((j1 + 1) % 3))), (4, .int (nI ((j1 + 2) % 3))), (5, .int (nI j4)), (6, .int (nI ((j4 + 1) % 3))), (7, .int (nI ((j4 + 2) % 3)))], [.long zz8, .long zz7, .int (nI ((3 * j4) + j1)), .ref o], uj4)
      refine P_lsub d_MD_turnsRound_88 ?_
      refine P_lastG (j := (3 * j4) + j1) d_MD_turnsRound_89 f6e hxo (ix_nI (by omega)) (by omega) (fun w9 e9 s9 n9 z9 => ?_)
      generalize vp_updL _ _ _ = g10 at e9 s9
      have hW9 : W1 o 9 w w9 := W1.st hWj4 e9
      show PW _ _ _ _ _ _ (90, [(0, .ref o), (1, .ref p), (2, .int (nI j1)), (3, .int (nI ((j1 + 1) % 3))), (4, .int (nI ((j1 + 2) % 3))), (5, .int (nI j4)), (6, .int (nI ((j4 + 1) % 3))), (7, .int (nI ((j4 + 2) % 3)))], [], w9)
      refine P_iinc (v := nI (j4 + 1)) d_MD_turnsRound_90 (by decide) rfl (nI_add j4 1) rfl ?_
      refine P_goto 23 d_MD_turnsRound_93 (by decide) ?_
      show PW _ _ _ _ _ _ (23, [(0, .ref o), (1, .ref p), (2, .int (nI j1)), (3, .int (nI ((j1 + 1) % 3))), (4, .int (nI ((j1 + 2) % 3))), (5, .int (nI (j4 + 1))), (6, .int (nI ((j4 + 1) % 3))), (7, .int (nI ((j4 + 2) % 3)))], [], w9)
      refine PW.drop (lv' := [(0, .ref o), (1, .ref p), (2, .int (nI j1)), (3, .int (nI ((j1 + 1) % 3))), (4, .int (nI ((j1 + 2) % 3))), (5, .int (nI (j4 + 1)))]) (by simp) ?_
      exact kkj4 (w9) (hW9)
theorem s_MD_areaOf {G : pG} {w : pW} {t K : Nat} {ft : Nat → Int32} (ht : w.2 t = .inl (0, K, .inl ft)) (hK : K < 1000000) (wh : Nat) (hwh : wh < 1000) (a : Nat) (ha : a < 4) (b : Nat) (hb : b < 4) (c : Nat) (hc : c < 4) (hk : 8 * wh + 8 ≤ K) : PM G M_MD_areaOf 0 0 0 [.ref t, .int (nI wh), .int (nI a), .int (nI b), .int (nI c)] w (fun r w' => (∃ v, r = some (.int v)) ∧ w' = w) := by
  refine PM_of pn_MD_areaOf (le_b rfl) ?_
  show PW _ _ _ _ _ _ (0, [(0, .ref t), (1, .int (nI wh)), (2, .int (nI a)), (3, .int (nI b)), (4, .int (nI c))], [], w)
  refine P_bipush (v := 8) d_MD_areaOf_0 (by decide) ?_
  refine P_iload_n d_MD_areaOf_2 rfl ?_
  refine P_imulN (a := 8) (b := wh) d_MD_areaOf_3 ?_
  show PW _ _ _ _ _ _ (4, [(0, .ref t), (1, .int (nI wh)), (2, .int (nI a)), (3, .int (nI b)), (4, .int (nI c))], [.int (nI (8 * wh))], w)
  refine P_istore d_MD_areaOf_4 (by decide) rfl ?_
  refine P_aload_n d_MD_areaOf_6 rfl ?_
  refine P_iload d_MD_areaOf_7 rfl ?_
  refine P_iconst (v := 2) d_MD_areaOf_9 (by decide) ?_
  refine P_iload_n d_MD_areaOf_10 rfl ?_
  refine P_imulN (a := 2) (b := b) d_MD_areaOf_11 ?_
  show PW _ _ _ _ _ _ (12, [(0, .ref t), (1, .int (nI wh)), (2, .int (nI a)), (3, .int (nI b)), (4, .int (nI c)), (5, .int (nI (8 * wh)))], [.int (nI (2 * b)), .int (nI (8 * wh)), .ref t], w)
  refine P_iaddN (a := (8 * wh)) (b := (2 * b)) d_MD_areaOf_12 ?_
  show PW _ _ _ _ _ _ (13, [(0, .ref t), (1, .int (nI wh)), (2, .int (nI a)), (3, .int (nI b)), (4, .int (nI c)), (5, .int (nI (8 * wh)))], [.int (nI ((8 * wh) + (2 * b))), .ref t], w)
  refine P_iald (j := (8 * wh) + (2 * b)) d_MD_areaOf_13 ht (ix_nI (by omega)) (by omega) ?_
  refine P_aload_n d_MD_areaOf_14 rfl ?_
  refine P_iload d_MD_areaOf_15 rfl ?_
  refine P_iconst (v := 2) d_MD_areaOf_17 (by decide) ?_
  refine P_iload_n d_MD_areaOf_18 rfl ?_
  refine P_imulN (a := 2) (b := a) d_MD_areaOf_19 ?_
  show PW _ _ _ _ _ _ (20, [(0, .ref t), (1, .int (nI wh)), (2, .int (nI a)), (3, .int (nI b)), (4, .int (nI c)), (5, .int (nI (8 * wh)))], [.int (nI (2 * a)), .int (nI (8 * wh)), .ref t, .int (ft ((8 * wh) + (2 * b)))], w)
  refine P_iaddN (a := (8 * wh)) (b := (2 * a)) d_MD_areaOf_20 ?_
  show PW _ _ _ _ _ _ (21, [(0, .ref t), (1, .int (nI wh)), (2, .int (nI a)), (3, .int (nI b)), (4, .int (nI c)), (5, .int (nI (8 * wh)))], [.int (nI ((8 * wh) + (2 * a))), .ref t, .int (ft ((8 * wh) + (2 * b)))], w)
  refine P_iald (j := (8 * wh) + (2 * a)) d_MD_areaOf_21 ht (ix_nI (by omega)) (by omega) ?_
  refine P_isub d_MD_areaOf_22 ?_
  refine P_istore d_MD_areaOf_23 (by decide) rfl ?_
  refine P_aload_n d_MD_areaOf_25 rfl ?_
  refine P_iload d_MD_areaOf_26 rfl ?_
  refine P_iconst (v := 2) d_MD_areaOf_28 (by decide) ?_
  refine P_iload_n d_MD_areaOf_29 rfl ?_
  refine P_imulN (a := 2) (b := b) d_MD_areaOf_30 ?_
  show PW _ _ _ _ _ _ (31, [(0, .ref t), (1, .int (nI wh)), (2, .int (nI a)), (3, .int (nI b)), (4, .int (nI c)), (5, .int (nI (8 * wh))), (6, .int ((ft ((8 * wh) + (2 * b))) - (ft ((8 * wh) + (2 * a)))))], [.int (nI (2 * b)), .int (nI (8 * wh)), .ref t], w)
  refine P_iaddN (a := (8 * wh)) (b := (2 * b)) d_MD_areaOf_31 ?_
  show PW _ _ _ _ _ _ (32, [(0, .ref t), (1, .int (nI wh)), (2, .int (nI a)), (3, .int (nI b)), (4, .int (nI c)), (5, .int (nI (8 * wh))), (6, .int ((ft ((8 * wh) + (2 * b))) - (ft ((8 * wh) + (2 * a)))))], [.int (nI ((8 * wh) + (2 * b))), .ref t], w)
  refine P_iconst (v := 1) d_MD_areaOf_32 (by decide) ?_
  refine P_iaddN (a := ((8 * wh) + (2 * b))) (b := 1) d_MD_areaOf_33 ?_
  show PW _ _ _ _ _ _ (34, [(0, .ref t), (1, .int (nI wh)), (2, .int (nI a)), (3, .int (nI b)), (4, .int (nI c)), (5, .int (nI (8 * wh))), (6, .int ((ft ((8 * wh) + (2 * b))) - (ft ((8 * wh) + (2 * a)))))], [.int (nI (((8 * wh) + (2 * b)) + 1)), .ref t], w)
  refine P_iald (j := ((8 * wh) + (2 * b)) + 1) d_MD_areaOf_34 ht (ix_nI (by omega)) (by omega) ?_
  refine P_aload_n d_MD_areaOf_35 rfl ?_
  refine P_iload d_MD_areaOf_36 rfl ?_
  refine P_iconst (v := 2) d_MD_areaOf_38 (by decide) ?_
  refine P_iload_n d_MD_areaOf_39 rfl ?_
  refine P_imulN (a := 2) (b := a) d_MD_areaOf_40 ?_
  show PW _ _ _ _ _ _ (41, [(0, .ref t), (1, .int (nI wh)), (2, .int (nI a)), (3, .int (nI b)), (4, .int (nI c)), (5, .int (nI (8 * wh))), (6, .int ((ft ((8 * wh) + (2 * b))) - (ft ((8 * wh) + (2 * a)))))], [.int (nI (2 * a)), .int (nI (8 * wh)), .ref t, .int (ft (((8 * wh) + (2 * b)) + 1))], w)
  refine P_iaddN (a := (8 * wh)) (b := (2 * a)) d_MD_areaOf_41 ?_
  show PW _ _ _ _ _ _ (42, [(0, .ref t), (1, .int (nI wh)), (2, .int (nI a)), (3, .int (nI b)), (4, .int (nI c)), (5, .int (nI (8 * wh))), (6, .int ((ft ((8 * wh) + (2 * b))) - (ft ((8 * wh) + (2 * a)))))], [.int (nI ((8 * wh) + (2 * a))), .ref t, .int (ft (((8 * wh) + (2 * b)) + 1))], w)
  refine P_iconst (v := 1) d_MD_areaOf_42 (by decide) ?_
  refine P_iaddN (a := ((8 * wh) + (2 * a))) (b := 1) d_MD_areaOf_43 ?_
  show PW _ _ _ _ _ _ (44, [(0, .ref t), (1, .int (nI wh)), (2, .int (nI a)), (3, .int (nI b)), (4, .int (nI c)), (5, .int (nI (8 * wh))), (6, .int ((ft ((8 * wh) + (2 * b))) - (ft ((8 * wh) + (2 * a)))))], [.int (nI (((8 * wh) + (2 * a)) + 1)), .ref t, .int (ft (((8 * wh) + (2 * b)) + 1))], w)
  refine P_iald (j := ((8 * wh) + (2 * a)) + 1) d_MD_areaOf_44 ht (ix_nI (by omega)) (by omega) ?_
  refine P_isub d_MD_areaOf_45 ?_
  generalize (ft (((8 * wh) + (2 * b)) + 1)) - (ft (((8 * wh) + (2 * a)) + 1)) = zz1
  show PW _ _ _ _ _ _ (46, [(0, .ref t), (1, .int (nI wh)), (2, .int (nI a)), (3, .int (nI b)), (4, .int (nI c)), (5, .int (nI (8 * wh))), (6, .int ((ft ((8 * wh) + (2 * b))) - (ft ((8 * wh) + (2 * a)))))], [.int zz1], w)
  refine P_istore d_MD_areaOf_46 (by decide) rfl ?_
  refine P_aload_n d_MD_areaOf_48 rfl ?_
  refine P_iload d_MD_areaOf_49 rfl ?_
  refine P_iconst (v := 2) d_MD_areaOf_51 (by decide) ?_
  refine P_iload d_MD_areaOf_52 rfl ?_
  refine P_imulN (a := 2) (b := c) d_MD_areaOf_54 ?_
  show PW _ _ _ _ _ _ (55, [(0, .ref t), (1, .int (nI wh)), (2, .int (nI a)), (3, .int (nI b)), (4, .int (nI c)), (5, .int (nI (8 * wh))), (6, .int ((ft ((8 * wh) + (2 * b))) - (ft ((8 * wh) + (2 * a))))), (7, .int zz1)], [.int (nI (2 * c)), .int (nI (8 * wh)), .ref t], w)
  refine P_iaddN (a := (8 * wh)) (b := (2 * c)) d_MD_areaOf_55 ?_
  show PW _ _ _ _ _ _ (56, [(0, .ref t), (1, .int (nI wh)), (2, .int (nI a)), (3, .int (nI b)), (4, .int (nI c)), (5, .int (nI (8 * wh))), (6, .int ((ft ((8 * wh) + (2 * b))) - (ft ((8 * wh) + (2 * a))))), (7, .int zz1)], [.int (nI ((8 * wh) + (2 * c))), .ref t], w)
  refine P_iald (j := (8 * wh) + (2 * c)) d_MD_areaOf_56 ht (ix_nI (by omega)) (by omega) ?_
  refine P_aload_n d_MD_areaOf_57 rfl ?_
  refine P_iload d_MD_areaOf_58 rfl ?_
  refine P_iconst (v := 2) d_MD_areaOf_60 (by decide) ?_
  refine P_iload_n d_MD_areaOf_61 rfl ?_
  refine P_imulN (a := 2) (b := a) d_MD_areaOf_62 ?_
  show PW _ _ _ _ _ _ (63, [(0, .ref t), (1, .int (nI wh)), (2, .int (nI a)), (3, .int (nI b)), (4, .int (nI c)), (5, .int (nI (8 * wh))), (6, .int ((ft ((8 * wh) + (2 * b))) - (ft ((8 * wh) + (2 * a))))), (7, .int zz1)], [.int (nI (2 * a)), .int (nI (8 * wh)), .ref t, .int (ft ((8 * wh) + (2 * c)))], w)
  refine P_iaddN (a := (8 * wh)) (b := (2 * a)) d_MD_areaOf_63 ?_
  show PW _ _ _ _ _ _ (64, [(0, .ref t), (1, .int (nI wh)), (2, .int (nI a)), (3, .int (nI b)), (4, .int (nI c)), (5, .int (nI (8 * wh))), (6, .int ((ft ((8 * wh) + (2 * b))) - (ft ((8 * wh) + (2 * a))))), (7, .int zz1)], [.int (nI ((8 * wh) + (2 * a))), .ref t, .int (ft ((8 * wh) + (2 * c)))], w)
  refine P_iald (j := (8 * wh) + (2 * a)) d_MD_areaOf_64 ht (ix_nI (by omega)) (by omega) ?_
  refine P_isub d_MD_areaOf_65 ?_
  refine P_istore d_MD_areaOf_66 (by decide) rfl ?_
  refine P_aload_n d_MD_areaOf_68 rfl ?_
  refine P_iload d_MD_areaOf_69 rfl ?_
  refine P_iconst (v := 2) d_MD_areaOf_71 (by decide) ?_
  refine P_iload d_MD_areaOf_72 rfl ?_
  refine P_imulN (a := 2) (b := c) d_MD_areaOf_74 ?_
  show PW _ _ _ _ _ _ (75, [(0, .ref t), (1, .int (nI wh)), (2, .int (nI a)), (3, .int (nI b)), (4, .int (nI c)), (5, .int (nI (8 * wh))), (6, .int ((ft ((8 * wh) + (2 * b))) - (ft ((8 * wh) + (2 * a))))), (7, .int zz1), (8, .int ((ft ((8 * wh) + (2 * c))) - (ft ((8 * wh) + (2 * a)))))], [.int (nI (2 * c)), .int (nI (8 * wh)), .ref t], w)
  refine P_iaddN (a := (8 * wh)) (b := (2 * c)) d_MD_areaOf_75 ?_
  show PW _ _ _ _ _ _ (76, [(0, .ref t), (1, .int (nI wh)), (2, .int (nI a)), (3, .int (nI b)), (4, .int (nI c)), (5, .int (nI (8 * wh))), (6, .int ((ft ((8 * wh) + (2 * b))) - (ft ((8 * wh) + (2 * a))))), (7, .int zz1), (8, .int ((ft ((8 * wh) + (2 * c))) - (ft ((8 * wh) + (2 * a)))))], [.int (nI ((8 * wh) + (2 * c))), .ref t], w)
  refine P_iconst (v := 1) d_MD_areaOf_76 (by decide) ?_
  refine P_iaddN (a := ((8 * wh) + (2 * c))) (b := 1) d_MD_areaOf_77 ?_
  show PW _ _ _ _ _ _ (78, [(0, .ref t), (1, .int (nI wh)), (2, .int (nI a)), (3, .int (nI b)), (4, .int (nI c)), (5, .int (nI (8 * wh))), (6, .int ((ft ((8 * wh) + (2 * b))) - (ft ((8 * wh) + (2 * a))))), (7, .int zz1), (8, .int ((ft ((8 * wh) + (2 * c))) - (ft ((8 * wh) + (2 * a)))))], [.int (nI (((8 * wh) + (2 * c)) + 1)), .ref t], w)
  refine P_iald (j := ((8 * wh) + (2 * c)) + 1) d_MD_areaOf_78 ht (ix_nI (by omega)) (by omega) ?_
  refine P_aload_n d_MD_areaOf_79 rfl ?_
  refine P_iload d_MD_areaOf_80 rfl ?_
  refine P_iconst (v := 2) d_MD_areaOf_82 (by decide) ?_
  refine P_iload_n d_MD_areaOf_83 rfl ?_
  refine P_imulN (a := 2) (b := a) d_MD_areaOf_84 ?_
  show PW _ _ _ _ _ _ (85, [(0, .ref t), (1, .int (nI wh)), (2, .int (nI a)), (3, .int (nI b)), (4, .int (nI c)), (5, .int (nI (8 * wh))), (6, .int ((ft ((8 * wh) + (2 * b))) - (ft ((8 * wh) + (2 * a))))), (7, .int zz1), (8, .int ((ft ((8 * wh) + (2 * c))) - (ft ((8 * wh) + (2 * a)))))], [.int (nI (2 * a)), .int (nI (8 * wh)), .ref t, .int (ft (((8 * wh) + (2 * c)) + 1))], w)
  refine P_iaddN (a := (8 * wh)) (b := (2 * a)) d_MD_areaOf_85 ?_
  show PW _ _ _ _ _ _ (86, [(0, .ref t), (1, .int (nI wh)), (2, .int (nI a)), (3, .int (nI b)), (4, .int (nI c)), (5, .int (nI (8 * wh))), (6, .int ((ft ((8 * wh) + (2 * b))) - (ft ((8 * wh) + (2 * a))))), (7, .int zz1), (8, .int ((ft ((8 * wh) + (2 * c))) - (ft ((8 * wh) + (2 * a)))))], [.int (nI ((8 * wh) + (2 * a))), .ref t, .int (ft (((8 * wh) + (2 * c)) + 1))], w)
  refine P_iconst (v := 1) d_MD_areaOf_86 (by decide) ?_
  refine P_iaddN (a := ((8 * wh) + (2 * a))) (b := 1) d_MD_areaOf_87 ?_
  show PW _ _ _ _ _ _ (88, [(0, .ref t), (1, .int (nI wh)), (2, .int (nI a)), (3, .int (nI b)), (4, .int (nI c)), (5, .int (nI (8 * wh))), (6, .int ((ft ((8 * wh) + (2 * b))) - (ft ((8 * wh) + (2 * a))))), (7, .int zz1), (8, .int ((ft ((8 * wh) + (2 * c))) - (ft ((8 * wh) + (2 * a)))))], [.int (nI (((8 * wh) + (2 * a)) + 1)), .ref t, .int (ft (((8 * wh) + (2 * c)) + 1))], w)
  refine P_iald (j := ((8 * wh) + (2 * a)) + 1) d_MD_areaOf_88 ht (ix_nI (by omega)) (by omega) ?_
  refine P_isub d_MD_areaOf_89 ?_
  generalize (ft (((8 * wh) + (2 * c)) + 1)) - (ft (((8 * wh) + (2 * a)) + 1)) = zz2
  show PW _ _ _ _ _ _ (90, [(0, .ref t), (1, .int (nI wh)), (2, .int (nI a)), (3, .int (nI b)), (4, .int (nI c)), (5, .int (nI (8 * wh))), (6, .int ((ft ((8 * wh) + (2 * b))) - (ft ((8 * wh) + (2 * a))))), (7, .int zz1), (8, .int ((ft ((8 * wh) + (2 * c))) - (ft ((8 * wh) + (2 * a)))))], [.int zz2], w)
  refine P_istore d_MD_areaOf_90 (by decide) rfl ?_
  refine P_iload d_MD_areaOf_92 rfl ?_
  refine P_iload d_MD_areaOf_94 rfl ?_
  refine P_imul d_MD_areaOf_96 ?_
  generalize ((ft ((8 * wh) + (2 * b))) - (ft ((8 * wh) + (2 * a)))) * zz2 = zz3
  show PW _ _ _ _ _ _ (97, [(0, .ref t), (1, .int (nI wh)), (2, .int (nI a)), (3, .int (nI b)), (4, .int (nI c)), (5, .int (nI (8 * wh))), (6, .int ((ft ((8 * wh) + (2 * b))) - (ft ((8 * wh) + (2 * a))))), (7, .int zz1), (8, .int ((ft ((8 * wh) + (2 * c))) - (ft ((8 * wh) + (2 * a))))), (9, .int zz2)], [.int zz3], w)
  refine P_iload d_MD_areaOf_97 rfl ?_
  refine P_iload d_MD_areaOf_99 rfl ?_
  refine P_imul d_MD_areaOf_101 ?_
  generalize zz1 * ((ft ((8 * wh) + (2 * c))) - (ft ((8 * wh) + (2 * a)))) = zz4
  show PW _ _ _ _ _ _ (102, [(0, .ref t), (1, .int (nI wh)), (2, .int (nI a)), (3, .int (nI b)), (4, .int (nI c)), (5, .int (nI (8 * wh))), (6, .int ((ft ((8 * wh) + (2 * b))) - (ft ((8 * wh) + (2 * a))))), (7, .int zz1), (8, .int ((ft ((8 * wh) + (2 * c))) - (ft ((8 * wh) + (2 * a))))), (9, .int zz2)], [.int zz4, .int zz3], w)
  refine P_isub d_MD_areaOf_102 ?_
  exact P_iret d_MD_areaOf_103 rfl (le_b rfl) (le_b rfl) ⟨⟨_, rfl⟩, rfl⟩
theorem s_MD_basis {G : pG} {w : pW} {o : Nat} {fo : Nat → Int64} (ho : w.2 o = .inl (1, 9, .inr (.inl fo))) (hxo : o < 1000000) {t K : Nat} {ft : Nat → Int32} (ht : w.2 t = .inl (0, K, .inl ft)) (hK : K < 1000000) (wh : Nat) (hwh : wh < 1000) (hk : 8 * wh + 8 ≤ K) (hto : t ≠ o) : PM G M_MD_basis 1 0 0 [.ref o, .ref t, .int (nI wh)] w (fun r w' => r = none ∧ W1 o 9 w w') := by
  refine PM_of pn_MD_basis (le_b rfl) ?_
  show PW _ _ _ _ _ _ (0, [(0, .ref o), (1, .ref t), (2, .int (nI wh))], [], w)
  have hW0 : W1 o 9 w w := W1.rf ho
  refine P_iconst (v := 0) d_MD_basis_0 (by decide) ?_
  refine P_istore_n d_MD_basis_1 (by decide) rfl ?_
  refine PW_ind (σ := pW) (3) (fun jj ss => W1 o 9 w (ss)) (fun jj ss => (2, [(0, .ref o), (1, .ref t), (2, .int (nI wh)), (3, .int (nI jj))], [], ss)) ?_ ?_ 0 (w) (by omega) (hW0)
  · rintro uj1 hWj1
    obtain ⟨f2, f2e⟩ := W1.at hWj1
    show PW _ _ _ _ _ _ (2, [(0, .ref o), (1, .ref t), (2, .int (nI wh)), (3, .int 3)], [], uj1)
    refine P_iload_n d_MD_basis_2 rfl ?_
    refine P_iconst (v := 3) d_MD_basis_3 (by decide) ?_
    refine P_icmp_ge 86 d_MD_basis_4 (by decide) (fun _ => ?_) (fun h => absurd (by decide) h)
    exact P_vret d_MD_basis_86 rfl (le_b rfl) (le_b rfl) ⟨rfl, hWj1⟩
  · rintro j1 uj1 hj1 hWj1 kkj1
    obtain ⟨f3, f3e⟩ := W1.at hWj1
    show PW _ _ _ _ _ _ (2, [(0, .ref o), (1, .ref t), (2, .int (nI wh)), (3, .int (nI j1))], [], uj1)
    refine P_iload_n d_MD_basis_2 rfl ?_
    refine P_iconst (v := 3) d_MD_basis_3 (by decide) ?_
    refine P_icmp_ge 86 d_MD_basis_4 (by decide) (fun h => absurd h (nI_geF (a := j1) (b := 3) (by omega) (by omega))) (fun _ => ?_)
    refine P_iload_n d_MD_basis_7 rfl ?_
    refine P_iconst (v := 1) d_MD_basis_8 (by decide) ?_
    refine P_iaddN (a := j1) (b := 1) d_MD_basis_9 ?_
    show PW _ _ _ _ _ _ (10, [(0, .ref o), (1, .ref t), (2, .int (nI wh)), (3, .int (nI j1))], [.int (nI (j1 + 1))], uj1)
    refine P_iconst (v := 3) d_MD_basis_10 (by decide) ?_
    refine P_iremN (a := (j1 + 1)) (b := 3) d_MD_basis_11 (by omega) (by omega) (by omega) ?_
    show PW _ _ _ _ _ _ (12, [(0, .ref o), (1, .ref t), (2, .int (nI wh)), (3, .int (nI j1))], [.int (nI ((j1 + 1) % 3))], uj1)
    refine P_istore d_MD_basis_12 (by decide) rfl ?_
    refine P_iload_n d_MD_basis_14 rfl ?_
    refine P_iconst (v := 2) d_MD_basis_15 (by decide) ?_
    refine P_iaddN (a := j1) (b := 2) d_MD_basis_16 ?_
    show PW _ _ _ _ _ _ (17, [(0, .ref o), (1, .ref t), (2, .int (nI wh)), (3, .int (nI j1)), (4, .int (nI ((j1 + 1) % 3)))], [.int (nI (j1 + 2))], uj1)
    refine P_iconst (v := 3) d_MD_basis_17 (by decide) ?_
    refine P_iremN (a := (j1 + 2)) (b := 3) d_MD_basis_18 (by omega) (by omega) (by omega) ?_
    show PW _ _ _ _ _ _ (19, [(0, .ref o), (1, .ref t), (2, .int (nI wh)), (3, .int (nI j1)), (4, .int (nI ((j1 + 1) % 3)))], [.int (nI ((j1 + 2) % 3))], uj1)
    refine P_istore d_MD_basis_19 (by decide) rfl ?_
    refine P_aload_n d_MD_basis_21 rfl ?_
    refine P_iload_n d_MD_basis_22 rfl ?_
    refine P_iload d_MD_basis_23 rfl ?_
    refine P_iload d_MD_basis_25 rfl ?_
    refine P_iconst (v := 3) d_MD_basis_27 (by decide) ?_
    refine P_callS (M := M_MD_basis) (pc := 28) (as := [.ref t, .int (nI wh), .int (nI ((j1 + 1) % 3)), .int (nI ((j1 + 2) % 3)), .int 3]) d_MD_basis_28 co_MD_areaOf L_MD_161 sm_MD_areaOf (s_MD_areaOf ((W1.ne hWj1 _ (by omega)).trans ht) hK wh (by omega) ((j1 + 1) % 3) (by omega) ((j1 + 2) % 3) (by omega) 3 (by decide) (by omega)) rfl ⟨by decide, by decide⟩ ⟨by decide, by decide⟩ (by exact le_b rfl) ?_ _ rfl
    rintro _ u ⟨⟨v4, rfl⟩, eu⟩
    subst u
    show PW _ _ _ _ _ _ (31, [(0, .ref o), (1, .ref t), (2, .int (nI wh)), (3, .int (nI j1)), (4, .int (nI ((j1 + 1) % 3))), (5, .int (nI ((j1 + 2) % 3)))], [.int v4], uj1)
    refine P_i2l d_MD_basis_31 ?_
    refine P_lstore d_MD_basis_32 (by decide) rfl ?_
    refine P_aload_n d_MD_basis_34 rfl ?_
    refine P_iload_n d_MD_basis_35 rfl ?_
    refine P_lload d_MD_basis_36 rfl ?_
    refine P_aload_n d_MD_basis_38 rfl ?_
    refine P_bipush (v := 8) d_MD_basis_39 (by decide) ?_
    refine P_iload_n d_MD_basis_41 rfl ?_
    refine P_imulN (a := 8) (b := wh) d_MD_basis_42 ?_
    show PW _ _ _ _ _ _ (43, [(0, .ref o), (1, .ref t), (2, .int (nI wh)), (3, .int (nI j1)), (4, .int (nI ((j1 + 1) % 3))), (5, .int (nI ((j1 + 2) % 3))), (6, .long v4.toInt64)], [.int (nI (8 * wh)), .ref t, .long v4.toInt64, .int (nI j1), .ref o], uj1)
    refine P_iconst (v := 2) d_MD_basis_43 (by decide) ?_
    refine P_iload_n d_MD_basis_44 rfl ?_
    refine P_imulN (a := 2) (b := j1) d_MD_basis_45 ?_
    show PW _ _ _ _ _ _ (46, [(0, .ref o), (1, .ref t), (2, .int (nI wh)), (3, .int (nI j1)), (4, .int (nI ((j1 + 1) % 3))), (5, .int (nI ((j1 + 2) % 3))), (6, .long v4.toInt64)], [.int (nI (2 * j1)), .int (nI (8 * wh)), .ref t, .long v4.toInt64, .int (nI j1), .ref o], uj1)
    refine P_iaddN (a := (8 * wh)) (b := (2 * j1)) d_MD_basis_46 ?_
    show PW _ _ _ _ _ _ (47, [(0, .ref o), (1, .ref t), (2, .int (nI wh)), (3, .int (nI j1)), (4, .int (nI ((j1 + 1) % 3))), (5, .int (nI ((j1 + 2) % 3))), (6, .long v4.toInt64)], [.int (nI ((8 * wh) + (2 * j1))), .ref t, .long v4.toInt64, .int (nI j1), .ref o], uj1)
    refine P_iald (j := (8 * wh) + (2 * j1)) d_MD_basis_47 ((W1.ne hWj1 _ (by omega)).trans ht) (ix_nI (by omega)) (by omega) ?_
    refine P_i2l d_MD_basis_48 ?_
    refine P_lmul d_MD_basis_49 ?_
    refine P_lastG (j := j1) d_MD_basis_50 f3e hxo (ix_nI (by omega)) (by omega) (fun w5 e5 s5 n5 z5 => ?_)
    generalize vp_updL _ _ _ = g6 at e5 s5
    have hW5 : W1 o 9 w w5 := W1.st hWj1 e5
    show PW _ _ _ _ _ _ (51, [(0, .ref o), (1, .ref t), (2, .int (nI wh)), (3, .int (nI j1)), (4, .int (nI ((j1 + 1) % 3))), (5, .int (nI ((j1 + 2) % 3))), (6, .long v4.toInt64)], [], w5)
    refine P_aload_n d_MD_basis_51 rfl ?_
    refine P_iconst (v := 3) d_MD_basis_52 (by decide) ?_
    refine P_iload_n d_MD_basis_53 rfl ?_
    refine P_iaddN (a := 3) (b := j1) d_MD_basis_54 ?_
    show PW _ _ _ _ _ _ (55, [(0, .ref o), (1, .ref t), (2, .int (nI wh)), (3, .int (nI j1)), (4, .int (nI ((j1 + 1) % 3))), (5, .int (nI ((j1 + 2) % 3))), (6, .long v4.toInt64)], [.int (nI (3 + j1)), .ref o], w5)
    refine P_lload d_MD_basis_55 rfl ?_
    refine P_aload_n d_MD_basis_57 rfl ?_
    refine P_bipush (v := 8) d_MD_basis_58 (by decide) ?_
    refine P_iload_n d_MD_basis_60 rfl ?_
    refine P_imulN (a := 8) (b := wh) d_MD_basis_61 ?_
    show PW _ _ _ _ _ _ (62, [(0, .ref o), (1, .ref t), (2, .int (nI wh)), (3, .int (nI j1)), (4, .int (nI ((j1 + 1) % 3))), (5, .int (nI ((j1 + 2) % 3))), (6, .long v4.toInt64)], [.int (nI (8 * wh)), .ref t, .long v4.toInt64, .int (nI (3 + j1)), .ref o], w5)
    refine P_iconst (v := 2) d_MD_basis_62 (by decide) ?_
    refine P_iload_n d_MD_basis_63 rfl ?_
    refine P_imulN (a := 2) (b := j1) d_MD_basis_64 ?_
    show PW _ _ _ _ _ _ (65, [(0, .ref o), (1, .ref t), (2, .int (nI wh)), (3, .int (nI j1)), (4, .int (nI ((j1 + 1) % 3))), (5, .int (nI ((j1 + 2) % 3))), (6, .long v4.toInt64)], [.int (nI (2 * j1)), .int (nI (8 * wh)), .ref t, .long v4.toInt64, .int (nI (3 + j1)), .ref o], w5)
    refine P_iaddN (a := (8 * wh)) (b := (2 * j1)) d_MD_basis_65 ?_
    show PW _ _ _ _ _ _ (66, [(0, .ref o), (1, .ref t), (2, .int (nI wh)), (3, .int (nI j1)), (4, .int (nI ((j1 + 1) % 3))), (5, .int (nI ((j1 + 2) % 3))), (6, .long v4.toInt64)], [.int (nI ((8 * wh) + (2 * j1))), .ref t, .long v4.toInt64, .int (nI (3 + j1)), .ref o], w5)
    refine P_iconst (v := 1) d_MD_basis_66 (by decide) ?_
    refine P_iaddN (a := ((8 * wh) + (2 * j1))) (b := 1) d_MD_basis_67 ?_
    show PW _ _ _ _ _ _ (68, [(0, .ref o), (1, .ref t), (2, .int (nI wh)), (3, .int (nI j1)), (4, .int (nI ((j1 + 1) % 3))), (5, .int (nI ((j1 + 2) % 3))), (6, .long v4.toInt64)], [.int (nI (((8 * wh) + (2 * j1)) + 1)), .ref t, .long v4.toInt64, .int (nI (3 + j1)), .ref o], w5)
    refine P_iald (j := ((8 * wh) + (2 * j1)) + 1) d_MD_basis_68 ((w_n e5 _ (by omega)).trans ((W1.ne hWj1 _ (by omega)).trans ht)) (ix_nI (by omega)) (by omega) ?_
    refine P_i2l d_MD_basis_69 ?_
    refine P_lmul d_MD_basis_70 ?_
    refine P_lastG (j := 3 + j1) d_MD_basis_71 s5 hxo (ix_nI (by omega)) (by omega) (fun w7 e7 s7 n7 z7 => ?_)
    generalize vp_updL _ _ _ = g8 at e7 s7
    have hW7 : W1 o 9 w w7 := W1.st hW5 e7
    show PW _ _ _ _ _ _ (72, [(0, .ref o), (1, .ref t), (2, .int (nI wh)), (3, .int (nI j1)), (4, .int (nI ((j1 + 1) % 3))), (5, .int (nI ((j1 + 2) % 3))), (6, .long v4.toInt64)], [], w7)
    refine P_aload_n d_MD_basis_72 rfl ?_
    refine P_bipush (v := 6) d_MD_basis_73 (by decide) ?_
    refine P_iload_n d_MD_basis_75 rfl ?_
    refine P_iaddN (a := 6) (b := j1) d_MD_basis_76 ?_
    show PW _ _ _ _ _ _ (77, [(0, .ref o), (1, .ref t), (2, .int (nI wh)), (3, .int (nI j1)), (4, .int (nI ((j1 + 1) % 3))), (5, .int (nI ((j1 + 2) % 3))), (6, .long v4.toInt64)], [.int (nI (6 + j1)), .ref o], w7)
    refine P_lload d_MD_basis_77 rfl ?_
    refine P_lastG (j := 6 + j1) d_MD_basis_79 s7 hxo (ix_nI (by omega)) (by omega) (fun w9 e9 s9 n9 z9 => ?_)
    generalize vp_updL _ _ _ = g10 at e9 s9
    have hW9 : W1 o 9 w w9 := W1.st hW7 e9
    show PW _ _ _ _ _ _ (80, [(0, .ref o), (1, .ref t), (2, .int (nI wh)), (3, .int (nI j1)), (4, .int (nI ((j1 + 1) % 3))), (5, .int (nI ((j1 + 2) % 3))), (6, .long v4.toInt64)], [], w9)
    refine P_iinc (v := nI (j1 + 1)) d_MD_basis_80 (by decide) rfl (nI_add j1 1) rfl ?_
    refine P_goto 2 d_MD_basis_83 (by decide) ?_
    show PW _ _ _ _ _ _ (2, [(0, .ref o), (1, .ref t), (2, .int (nI wh)), (3, .int (nI (j1 + 1))), (4, .int (nI ((j1 + 1) % 3))), (5, .int (nI ((j1 + 2) % 3))), (6, .long v4.toInt64)], [], w9)
    refine PW.drop (lv' := [(0, .ref o), (1, .ref t), (2, .int (nI wh)), (3, .int (nI (j1 + 1)))]) (by simp) ?_
    exact kkj1 (w9) (hW9)
theorem s_MD_isNone {G : pG} {w : pW} {p : Nat} {fp : Nat → Int64} (hp : w.2 p = .inl (1, 3, .inr (.inl fp))) : PM G M_MD_isNone 0 0 0 [.ref p] w (fun r w' => (∃ v, r = some (.int (bi v))) ∧ w' = w) := by
  refine PM_of pn_MD_isNone (le_b rfl) ?_
  show PW _ _ _ _ _ _ (0, [(0, .ref p)], [], w)
  refine P_aload_n d_MD_isNone_0 rfl ?_
  refine P_iconst (v := 0) d_MD_isNone_1 (by decide) ?_
  refine P_lald (j := 0) d_MD_isNone_2 hp ⟨by decide, by decide⟩ (by decide) ?_
  refine P_lconst (v := 0) d_MD_isNone_3 (by decide) ?_
  refine P_lcmp d_MD_isNone_4 ?_
  refine P_if_ne 28 d_MD_isNone_5 (by decide) (fun c1 => ?_) (fun c1 => ?_)
  · refine P_iconst (v := 0) d_MD_isNone_28 (by decide) ?_
    exact P_zret d_MD_isNone_29 rfl rfl (le_b rfl) (le_b rfl) ⟨⟨false, rfl⟩, rfl⟩
  · refine P_aload_n d_MD_isNone_8 rfl ?_
    refine P_iconst (v := 1) d_MD_isNone_9 (by decide) ?_
    refine P_lald (j := 1) d_MD_isNone_10 hp ⟨by decide, by decide⟩ (by decide) ?_
    refine P_lconst (v := 0) d_MD_isNone_11 (by decide) ?_
    refine P_lcmp d_MD_isNone_12 ?_
    refine P_if_ne 28 d_MD_isNone_13 (by decide) (fun c2 => ?_) (fun c2 => ?_)
    · refine P_iconst (v := 0) d_MD_isNone_28 (by decide) ?_
      exact P_zret d_MD_isNone_29 rfl rfl (le_b rfl) (le_b rfl) ⟨⟨false, rfl⟩, rfl⟩
    · refine P_aload_n d_MD_isNone_16 rfl ?_
      refine P_iconst (v := 2) d_MD_isNone_17 (by decide) ?_
      refine P_lald (j := 2) d_MD_isNone_18 hp ⟨by decide, by decide⟩ (by decide) ?_
      refine P_lconst (v := 0) d_MD_isNone_19 (by decide) ?_
      refine P_lcmp d_MD_isNone_20 ?_
      refine P_if_ne 28 d_MD_isNone_21 (by decide) (fun c3 => ?_) (fun c3 => ?_)
      · refine P_iconst (v := 0) d_MD_isNone_28 (by decide) ?_
        exact P_zret d_MD_isNone_29 rfl rfl (le_b rfl) (le_b rfl) ⟨⟨false, rfl⟩, rfl⟩
      · refine P_iconst (v := 1) d_MD_isNone_24 (by decide) ?_
        refine P_goto 29 d_MD_isNone_25 (by decide) ?_
        exact P_zret d_MD_isNone_29 rfl rfl (le_b rfl) (le_b rfl) ⟨⟨true, rfl⟩, rfl⟩
theorem s_MD_isBetween {G : pG} {w : pW} (x1 : Int64) (x2 : Int64) (x3 : Int64) : PM G M_MD_isBetween 1 0 0 [.long x1, .long x2, .long x3] w (fun r w' => (∃ v, r = some (.int (bi v))) ∧ w' = w) := by
  refine PM_of pn_MD_isBetween (le_b rfl) ?_
  show PW _ _ _ _ _ _ (0, [(0, .long x1), (2, .long x2), (4, .long x3)], [], w)
  refine P_lload_n d_MD_isBetween_0 rfl ?_
  refine P_lload_n d_MD_isBetween_1 rfl ?_
  refine P_lload d_MD_isBetween_2 rfl ?_
  refine P_mminlZ d_MD_isBetween_4 L_MD_371 st_minl in_Math cd_minl ⟨by decide, by decide, by decide, by decide⟩ (by exact le_b rfl) (fun zz1 => ?_)
  show PW _ _ _ _ _ _ (7, [(0, .long x1), (2, .long x2), (4, .long x3)], [.long zz1, .long x1], w)
  refine P_lcmp d_MD_isBetween_7 ?_
  refine P_if_lt 26 d_MD_isBetween_8 (by decide) (fun c2 => ?_) (fun c2 => ?_)
  · refine P_iconst (v := 0) d_MD_isBetween_26 (by decide) ?_
    exact P_zret d_MD_isBetween_27 rfl rfl (le_b rfl) (le_b rfl) ⟨⟨false, rfl⟩, rfl⟩
  · refine P_lload_n d_MD_isBetween_11 rfl ?_
    refine P_lload_n d_MD_isBetween_12 rfl ?_
    refine P_lload d_MD_isBetween_13 rfl ?_
    refine P_mmaxlZ d_MD_isBetween_15 L_MD_374 st_max in_Math cd_max ⟨by decide, by decide, by decide, by decide⟩ (by exact le_b rfl) (fun zz3 => ?_)
    show PW _ _ _ _ _ _ (18, [(0, .long x1), (2, .long x2), (4, .long x3)], [.long zz3, .long x1], w)
    refine P_lcmp d_MD_isBetween_18 ?_
    refine P_if_gt 26 d_MD_isBetween_19 (by decide) (fun c4 => ?_) (fun c4 => ?_)
    · refine P_iconst (v := 0) d_MD_isBetween_26 (by decide) ?_
      exact P_zret d_MD_isBetween_27 rfl rfl (le_b rfl) (le_b rfl) ⟨⟨false, rfl⟩, rfl⟩
    · refine P_iconst (v := 1) d_MD_isBetween_22 (by decide) ?_
      refine P_goto 27 d_MD_isBetween_23 (by decide) ?_
      exact P_zret d_MD_isBetween_27 rfl rfl (le_b rfl) (le_b rfl) ⟨⟨true, rfl⟩, rfl⟩
theorem s_MD_pointOf {G : pG} {w : pW} (p : Nat) (hp : p < 8) (k : Nat) (hk : k < 3) {tp qs un : Nat} {nq ln nl sz at_ pl so vl wo fa fp lf lp th rm um sm : Int32} (em : w.2 467 = mO (nI tp) (nI qs) nq (nI un) ln nl sz at_ pl so vl wo fa fp lf lp th rm um sm) (htp : tp ≤ 900) (hqs : qs ≤ 8) (hun : un ≤ 16) {fn : Nat → Int64} (r471 : w.2 471 = .inl (1, 170, .inr (.inl fn))) {nm np : Nat} (hnm : nm ≤ 16) (e8 : fn 168 = lN nm) (hnp : np ≤ 8) (e9 : fn 169 = lN np) : PM G M_MD_pointOf 0 0 0 [.ref 467, .int (nI p), .int (nI k)] w (fun r w' => (∃ v, r = some (.long v)) ∧ w' = w) := by
  refine PM_of pn_MD_pointOf (le_b rfl) ?_
  show PW _ _ _ _ _ _ (0, [(0, .ref 467), (1, .int (nI p)), (2, .int (nI k))], [], w)
  refine P_aload_n d_MD_pointOf_0 rfl ?_
  refine P_getf (i := 7) d_MD_pointOf_1 ok_Model (by decide) L_MD_21 em rfl ?_
  refine P_sipush (v := 144) d_MD_pointOf_4 (by decide) ?_
  refine P_iconst (v := 3) d_MD_pointOf_7 (by decide) ?_
  refine P_iload_n d_MD_pointOf_8 rfl ?_
  refine P_imulN (a := 3) (b := p) d_MD_pointOf_9 ?_
  show PW _ _ _ _ _ _ (10, [(0, .ref 467), (1, .int (nI p)), (2, .int (nI k))], [.int (nI (3 * p)), .int 144, .ref 471], w)
  refine P_iaddN (a := 144) (b := (3 * p)) d_MD_pointOf_10 ?_
  show PW _ _ _ _ _ _ (11, [(0, .ref 467), (1, .int (nI p)), (2, .int (nI k))], [.int (nI (144 + (3 * p))), .ref 471], w)
  refine P_iload_n d_MD_pointOf_11 rfl ?_
  refine P_iaddN (a := (144 + (3 * p))) (b := k) d_MD_pointOf_12 ?_
  show PW _ _ _ _ _ _ (13, [(0, .ref 467), (1, .int (nI p)), (2, .int (nI k))], [.int (nI ((144 + (3 * p)) + k)), .ref 471], w)
  refine P_lald (j := (144 + (3 * p)) + k) d_MD_pointOf_13 r471 (ix_nI (by omega)) (by omega) ?_
  exact P_lret d_MD_pointOf_14 rfl (le_b rfl) (le_b rfl) ⟨⟨_, rfl⟩, rfl⟩
theorem s_MD_isDent {G : pG} {w : pW} (q : Nat) (hq : q < 8) (k : Nat) (hk : k < 4) {tp qs un : Nat} {nq ln nl sz at_ pl so vl wo fa fp lf lp th rm um sm : Int32} (em : w.2 467 = mO (nI tp) (nI qs) nq (nI un) ln nl sz at_ pl so vl wo fa fp lf lp th rm um sm) (htp : tp ≤ 900) (hqs : qs ≤ 8) (hun : un ≤ 16) {f469 : Nat → Int32} (r469 : w.2 469 = .inl (0, 64, .inl f469)) : PM G M_MD_isDent 1 0 0 [.ref 467, .int (nI q), .int (nI k)] w (fun r w' => (∃ v, r = some (.int (bi v))) ∧ w' = w) := by
  refine PM_of pn_MD_isDent (le_b rfl) ?_
  show PW _ _ _ _ _ _ (0, [(0, .ref 467), (1, .int (nI q)), (2, .int (nI k))], [], w)
  refine P_iload_n d_MD_isDent_0 rfl ?_
  refine P_iconst (v := 1) d_MD_isDent_1 (by decide) ?_
  refine P_iaddN (a := k) (b := 1) d_MD_isDent_2 ?_
  show PW _ _ _ _ _ _ (3, [(0, .ref 467), (1, .int (nI q)), (2, .int (nI k))], [.int (nI (k + 1))], w)
  refine P_iconst (v := 4) d_MD_isDent_3 (by decide) ?_
  refine P_iremN (a := (k + 1)) (b := 4) d_MD_isDent_4 (by omega) (by omega) (by omega) ?_
  show PW _ _ _ _ _ _ (5, [(0, .ref 467), (1, .int (nI q)), (2, .int (nI k))], [.int (nI ((k + 1) % 4))], w)
  refine P_istore_n d_MD_isDent_5 (by decide) rfl ?_
  refine P_iload_n d_MD_isDent_6 rfl ?_
  refine P_iconst (v := 2) d_MD_isDent_7 (by decide) ?_
  refine P_iaddN (a := k) (b := 2) d_MD_isDent_8 ?_
  show PW _ _ _ _ _ _ (9, [(0, .ref 467), (1, .int (nI q)), (2, .int (nI k)), (3, .int (nI ((k + 1) % 4)))], [.int (nI (k + 2))], w)
  refine P_iconst (v := 4) d_MD_isDent_9 (by decide) ?_
  refine P_iremN (a := (k + 2)) (b := 4) d_MD_isDent_10 (by omega) (by omega) (by omega) ?_
  show PW _ _ _ _ _ _ (11, [(0, .ref 467), (1, .int (nI q)), (2, .int (nI k)), (3, .int (nI ((k + 1) % 4)))], [.int (nI ((k + 2) % 4))], w)
  refine P_istore d_MD_isDent_11 (by decide) rfl ?_
  refine P_iload_n d_MD_isDent_13 rfl ?_
  refine P_iconst (v := 3) d_MD_isDent_14 (by decide) ?_
  refine P_iaddN (a := k) (b := 3) d_MD_isDent_15 ?_
  show PW _ _ _ _ _ _ (16, [(0, .ref 467), (1, .int (nI q)), (2, .int (nI k)), (3, .int (nI ((k + 1) % 4))), (4, .int (nI ((k + 2) % 4)))], [.int (nI (k + 3))], w)
  refine P_iconst (v := 4) d_MD_isDent_16 (by decide) ?_
  refine P_iremN (a := (k + 3)) (b := 4) d_MD_isDent_17 (by omega) (by omega) (by omega) ?_
  show PW _ _ _ _ _ _ (18, [(0, .ref 467), (1, .int (nI q)), (2, .int (nI k)), (3, .int (nI ((k + 1) % 4))), (4, .int (nI ((k + 2) % 4)))], [.int (nI ((k + 3) % 4))], w)
  refine P_istore d_MD_isDent_18 (by decide) rfl ?_
  refine P_aload_n d_MD_isDent_20 rfl ?_
  refine P_getf (i := 3) d_MD_isDent_21 ok_Model (by decide) L_MD_15 em rfl ?_
  refine P_iload_n d_MD_isDent_24 rfl ?_
  refine P_iload_n d_MD_isDent_25 rfl ?_
  refine P_iload d_MD_isDent_26 rfl ?_
  refine P_iload_n d_MD_isDent_28 rfl ?_
  refine P_callS (M := M_MD_isDent) (pc := 29) (as := [.ref 469, .int (nI q), .int (nI ((k + 1) % 4)), .int (nI ((k + 2) % 4)), .int (nI k)]) d_MD_isDent_29 co_MD_areaOf L_MD_161 sm_MD_areaOf (s_MD_areaOf r469 (by decide) q (by omega) ((k + 1) % 4) (by omega) ((k + 2) % 4) (by omega) k (by omega) (by omega)) rfl ⟨by decide, by decide⟩ ⟨by decide, by decide⟩ (by exact le_b rfl) ?_ _ rfl
  rintro _ u ⟨⟨v1, rfl⟩, eu⟩
  subst u
  show PW _ _ _ _ _ _ (32, [(0, .ref 467), (1, .int (nI q)), (2, .int (nI k)), (3, .int (nI ((k + 1) % 4))), (4, .int (nI ((k + 2) % 4))), (5, .int (nI ((k + 3) % 4)))], [.int v1], w)
  refine P_if_le 39 d_MD_isDent_32 (by decide) (fun c2 => ?_) (fun c2 => ?_)
  · refine P_iconst (v := 0) d_MD_isDent_39 (by decide) ?_
    refine P_istore d_MD_isDent_40 (by decide) rfl ?_
    refine P_aload_n d_MD_isDent_42 rfl ?_
    refine P_getf (i := 3) d_MD_isDent_43 ok_Model (by decide) L_MD_15 em rfl ?_
    refine P_iload_n d_MD_isDent_46 rfl ?_
    refine P_iload d_MD_isDent_47 rfl ?_
    refine P_iload d_MD_isDent_49 rfl ?_
    refine P_iload_n d_MD_isDent_51 rfl ?_
    refine P_callS (M := M_MD_isDent) (pc := 52) (as := [.ref 469, .int (nI q), .int (nI ((k + 2) % 4)), .int (nI ((k + 3) % 4)), .int (nI k)]) d_MD_isDent_52 co_MD_areaOf L_MD_161 sm_MD_areaOf (s_MD_areaOf r469 (by decide) q (by omega) ((k + 2) % 4) (by omega) ((k + 3) % 4) (by omega) k (by omega) (by omega)) rfl ⟨by decide, by decide⟩ ⟨by decide, by decide⟩ (by exact le_b rfl) ?_ _ rfl
    rintro _ u ⟨⟨v3, rfl⟩, eu⟩
    subst u
    show PW _ _ _ _ _ _ (55, [(0, .ref 467), (1, .int (nI q)), (2, .int (nI k)), (3, .int (nI ((k + 1) % 4))), (4, .int (nI ((k + 2) % 4))), (5, .int (nI ((k + 3) % 4))), (6, .int 0)], [.int v3], w)
    refine P_if_le 62 d_MD_isDent_55 (by decide) (fun c4 => ?_) (fun c4 => ?_)
    · refine P_iconst (v := 0) d_MD_isDent_62 (by decide) ?_
      refine P_iload d_MD_isDent_63 rfl ?_
      refine P_icmp_ne 97 d_MD_isDent_65 (by decide) (fun h => absurd (by decide) h) (fun _ => ?_)
      refine P_aload_n d_MD_isDent_68 rfl ?_
      refine P_getf (i := 3) d_MD_isDent_69 ok_Model (by decide) L_MD_15 em rfl ?_
      refine P_iload_n d_MD_isDent_72 rfl ?_
      refine P_iload d_MD_isDent_73 rfl ?_
      refine P_iload_n d_MD_isDent_75 rfl ?_
      refine P_iload_n d_MD_isDent_76 rfl ?_
      refine P_callS (M := M_MD_isDent) (pc := 77) (as := [.ref 469, .int (nI q), .int (nI ((k + 3) % 4)), .int (nI ((k + 1) % 4)), .int (nI k)]) d_MD_isDent_77 co_MD_areaOf L_MD_161 sm_MD_areaOf (s_MD_areaOf r469 (by decide) q (by omega) ((k + 3) % 4) (by omega) ((k + 1) % 4) (by omega) k (by omega) (by omega)) rfl ⟨by decide, by decide⟩ ⟨by decide, by decide⟩ (by exact le_b rfl) ?_ _ rfl
      rintro _ u ⟨⟨v5, rfl⟩, eu⟩
      subst u
      show PW _ _ _ _ _ _ (80, [(0, .ref 467), (1, .int (nI q)), (2, .int (nI k)), (3, .int (nI ((k + 1) % 4))), (4, .int (nI ((k + 2) % 4))), (5, .int (nI ((k + 3) % 4))), (6, .int 0)], [.int v5], w)
      refine P_if_le 87 d_MD_isDent_80 (by decide) (fun c6 => ?_) (fun c6 => ?_)
      · refine P_iconst (v := 0) d_MD_isDent_87 (by decide) ?_
        refine P_iload d_MD_isDent_88 rfl ?_
        refine P_icmp_ne 97 d_MD_isDent_90 (by decide) (fun h => absurd (by decide) h) (fun _ => ?_)
        refine P_iconst (v := 1) d_MD_isDent_93 (by decide) ?_
        refine P_goto 98 d_MD_isDent_94 (by decide) ?_
        exact P_zret d_MD_isDent_98 rfl rfl (le_b rfl) (le_b rfl) ⟨⟨true, rfl⟩, rfl⟩
      · refine P_iconst (v := 1) d_MD_isDent_83 (by decide) ?_
        refine P_goto 88 d_MD_isDent_84 (by decide) ?_
        refine P_iload d_MD_isDent_88 rfl ?_
        refine P_icmp_ne 97 d_MD_isDent_90 (by decide) (fun _ => ?_) (fun h => absurd h (by decide))
        refine P_iconst (v := 0) d_MD_isDent_97 (by decide) ?_
        exact P_zret d_MD_isDent_98 rfl rfl (le_b rfl) (le_b rfl) ⟨⟨false, rfl⟩, rfl⟩
    · refine P_iconst (v := 1) d_MD_isDent_58 (by decide) ?_
      refine P_goto 63 d_MD_isDent_59 (by decide) ?_
      refine P_iload d_MD_isDent_63 rfl ?_
      refine P_icmp_ne 97 d_MD_isDent_65 (by decide) (fun _ => ?_) (fun h => absurd h (by decide))
      refine P_iconst (v := 0) d_MD_isDent_97 (by decide) ?_
      exact P_zret d_MD_isDent_98 rfl rfl (le_b rfl) (le_b rfl) ⟨⟨false, rfl⟩, rfl⟩
  · refine P_iconst (v := 1) d_MD_isDent_35 (by decide) ?_
    refine P_goto 40 d_MD_isDent_36 (by decide) ?_
    refine P_istore d_MD_isDent_40 (by decide) rfl ?_
    refine P_aload_n d_MD_isDent_42 rfl ?_
    refine P_getf (i := 3) d_MD_isDent_43 ok_Model (by decide) L_MD_15 em rfl ?_
    refine P_iload_n d_MD_isDent_46 rfl ?_
    refine P_iload d_MD_isDent_47 rfl ?_
    refine P_iload d_MD_isDent_49 rfl ?_
    refine P_iload_n d_MD_isDent_51 rfl ?_
    refine P_callS (M := M_MD_isDent) (pc := 52) (as := [.ref 469, .int (nI q), .int (nI ((k + 2) % 4)), .int (nI ((k + 3) % 4)), .int (nI k)]) d_MD_isDent_52 co_MD_areaOf L_MD_161 sm_MD_areaOf (s_MD_areaOf r469 (by decide) q (by omega) ((k + 2) % 4) (by omega) ((k + 3) % 4) (by omega) k (by omega) (by omega)) rfl ⟨by decide, by decide⟩ ⟨by decide, by decide⟩ (by exact le_b rfl) ?_ _ rfl
    rintro _ u ⟨⟨v7, rfl⟩, eu⟩
    subst u
    show PW _ _ _ _ _ _ (55, [(0, .ref 467), (1, .int (nI q)), (2, .int (nI k)), (3, .int (nI ((k + 1) % 4))), (4, .int (nI ((k + 2) % 4))), (5, .int (nI ((k + 3) % 4))), (6, .int 1)], [.int v7], w)
    refine P_if_le 62 d_MD_isDent_55 (by decide) (fun c8 => ?_) (fun c8 => ?_)
    · refine P_iconst (v := 0) d_MD_isDent_62 (by decide) ?_
      refine P_iload d_MD_isDent_63 rfl ?_
      refine P_icmp_ne 97 d_MD_isDent_65 (by decide) (fun _ => ?_) (fun h => absurd h (by decide))
      refine P_iconst (v := 0) d_MD_isDent_97 (by decide) ?_
      exact P_zret d_MD_isDent_98 rfl rfl (le_b rfl) (le_b rfl) ⟨⟨false, rfl⟩, rfl⟩
    · refine P_iconst (v := 1) d_MD_isDent_58 (by decide) ?_
      refine P_goto 63 d_MD_isDent_59 (by decide) ?_
      refine P_iload d_MD_isDent_63 rfl ?_
      refine P_icmp_ne 97 d_MD_isDent_65 (by decide) (fun h => absurd (by decide) h) (fun _ => ?_)
      refine P_aload_n d_MD_isDent_68 rfl ?_
      refine P_getf (i := 3) d_MD_isDent_69 ok_Model (by decide) L_MD_15 em rfl ?_
      refine P_iload_n d_MD_isDent_72 rfl ?_
      refine P_iload d_MD_isDent_73 rfl ?_
      refine P_iload_n d_MD_isDent_75 rfl ?_
      refine P_iload_n d_MD_isDent_76 rfl ?_
      refine P_callS (M := M_MD_isDent) (pc := 77) (as := [.ref 469, .int (nI q), .int (nI ((k + 3) % 4)), .int (nI ((k + 1) % 4)), .int (nI k)]) d_MD_isDent_77 co_MD_areaOf L_MD_161 sm_MD_areaOf (s_MD_areaOf r469 (by decide) q (by omega) ((k + 3) % 4) (by omega) ((k + 1) % 4) (by omega) k (by omega) (by omega)) rfl ⟨by decide, by decide⟩ ⟨by decide, by decide⟩ (by exact le_b rfl) ?_ _ rfl
      rintro _ u ⟨⟨v9, rfl⟩, eu⟩
      subst u
      show PW _ _ _ _ _ _ (80, [(0, .ref 467), (1, .int (nI q)), (2, .int (nI k)), (3, .int (nI ((k + 1) % 4))), (4, .int (nI ((k + 2) % 4))), (5, .int (nI ((k + 3) % 4))), (6, .int 1)], [.int v9], w)
      refine P_if_le 87 d_MD_isDent_80 (by decide) (fun c10 => ?_) (fun c10 => ?_)
      · refine P_iconst (v := 0) d_MD_isDent_87 (by decide) ?_
        refine P_iload d_MD_isDent_88 rfl ?_
        refine P_icmp_ne 97 d_MD_isDent_90 (by decide) (fun _ => ?_) (fun h => absurd h (by decide))
        refine P_iconst (v := 0) d_MD_isDent_97 (by decide) ?_
        exact P_zret d_MD_isDent_98 rfl rfl (le_b rfl) (le_b rfl) ⟨⟨false, rfl⟩, rfl⟩
      · refine P_iconst (v := 1) d_MD_isDent_83 (by decide) ?_
        refine P_goto 88 d_MD_isDent_84 (by decide) ?_
        refine P_iload d_MD_isDent_88 rfl ?_
        refine P_icmp_ne 97 d_MD_isDent_90 (by decide) (fun h => absurd (by decide) h) (fun _ => ?_)
        refine P_iconst (v := 1) d_MD_isDent_93 (by decide) ?_
        refine P_goto 98 d_MD_isDent_94 (by decide) ?_
        exact P_zret d_MD_isDent_98 rfl rfl (le_b rfl) (le_b rfl) ⟨⟨true, rfl⟩, rfl⟩
theorem s_MD_dentOf {G : pG} {w : pW} (q : Nat) (hq : q < 8) {tp qs un : Nat} {nq ln nl sz at_ pl so vl wo fa fp lf lp th rm um sm : Int32} (em : w.2 467 = mO (nI tp) (nI qs) nq (nI un) ln nl sz at_ pl so vl wo fa fp lf lp th rm um sm) (htp : tp ≤ 900) (hqs : qs ≤ 8) (hun : un ≤ 16) {f469 : Nat → Int32} (r469 : w.2 469 = .inl (0, 64, .inl f469)) : PM G M_MD_dentOf 2 0 0 [.ref 467, .int (nI q)] w (fun r w' => (∃ v, r = some (.int v)) ∧ w' = w) := by
  refine PM_of pn_MD_dentOf (le_b rfl) ?_
  show PW _ _ _ _ _ _ (0, [(0, .ref 467), (1, .int (nI q))], [], w)
  refine P_iconst (v := 0) d_MD_dentOf_0 (by decide) ?_
  refine P_istore_n d_MD_dentOf_1 (by decide) rfl ?_
  refine PW_ind (σ := Unit) (4) (fun jj ss => True) (fun jj ss => (2, [(0, .ref 467), (1, .int (nI q)), (2, .int (nI jj))], [], w)) ?_ ?_ 0 () (by omega) trivial
  · rintro _ _
    show PW _ _ _ _ _ _ (2, [(0, .ref 467), (1, .int (nI q)), (2, .int 4)], [], w)
    refine P_iload_n d_MD_dentOf_2 rfl ?_
    refine P_iconst (v := 4) d_MD_dentOf_3 (by decide) ?_
    refine P_icmp_ge 24 d_MD_dentOf_4 (by decide) (fun _ => ?_) (fun h => absurd (by decide) h)
    refine P_bipush (v := (-2)) d_MD_dentOf_24 (by decide) ?_
    exact P_iret d_MD_dentOf_26 rfl (le_b rfl) (le_b rfl) ⟨⟨_, rfl⟩, rfl⟩
  · rintro j1 _ hj1 _ kkj1
    show PW _ _ _ _ _ _ (2, [(0, .ref 467), (1, .int (nI q)), (2, .int (nI j1))], [], w)
    refine P_iload_n d_MD_dentOf_2 rfl ?_
    refine P_iconst (v := 4) d_MD_dentOf_3 (by decide) ?_
    refine P_icmp_ge 24 d_MD_dentOf_4 (by decide) (fun h => absurd h (nI_geF (a := j1) (b := 4) (by omega) (by omega))) (fun _ => ?_)
    refine P_aload_n d_MD_dentOf_7 rfl ?_
    refine P_iload_n d_MD_dentOf_8 rfl ?_
    refine P_iload_n d_MD_dentOf_9 rfl ?_
    refine P_callV (M := M_MD_dentOf) (pc := 10) (as := [.int (nI q), .int (nI j1)]) (b := 467) d_MD_dentOf_10 co_MD_isDent ok_Model em L_MD_254 im_MD_isDent se_MD_isDent (s_MD_isDent q (by omega) j1 (by omega) em htp hqs hun r469) rfl ⟨by decide, by decide⟩ ⟨by decide, by decide⟩ (by exact le_b rfl) ?_ _ rfl
    rintro _ u ⟨⟨v2, rfl⟩, eu⟩
    subst u
    show PW _ _ _ _ _ _ (13, [(0, .ref 467), (1, .int (nI q)), (2, .int (nI j1))], [.int (bi v2)], w)
    refine P_if_eq 18 d_MD_dentOf_13 (by decide) (fun c3 => ?_) (fun c3 => ?_)
    · refine P_iinc (v := nI (j1 + 1)) d_MD_dentOf_18 (by decide) rfl (nI_add j1 1) rfl ?_
      refine P_goto 2 d_MD_dentOf_21 (by decide) ?_
      exact kkj1 () trivial
    · refine P_iload_n d_MD_dentOf_16 rfl ?_
      exact P_iret d_MD_dentOf_17 rfl (le_b rfl) (le_b rfl) ⟨⟨_, rfl⟩, rfl⟩
theorem s_MD_doCross {G : pG} {w : pW} (q : Nat) (hq : q < 8) (a : Nat) (ha : a < 4) (b : Nat) (hb : b < 4) (c : Nat) (hc : c < 4) (d : Nat) (hd : d < 4) {tp qs un : Nat} {nq ln nl sz at_ pl so vl wo fa fp lf lp th rm um sm : Int32} (em : w.2 467 = mO (nI tp) (nI qs) nq (nI un) ln nl sz at_ pl so vl wo fa fp lf lp th rm um sm) (htp : tp ≤ 900) (hqs : qs ≤ 8) (hun : un ≤ 16) {f469 : Nat → Int32} (r469 : w.2 469 = .inl (0, 64, .inl f469)) : PM G M_MD_doCross 1 0 0 [.ref 467, .int (nI q), .int (nI a), .int (nI b), .int (nI c), .int (nI d)] w (fun r w' => (∃ v, r = some (.int (bi v))) ∧ w' = w) := by
  refine PM_of pn_MD_doCross (le_b rfl) ?_
  show PW _ _ _ _ _ _ (0, [(0, .ref 467), (1, .int (nI q)), (2, .int (nI a)), (3, .int (nI b)), (4, .int (nI c)), (5, .int (nI d))], [], w)
  refine P_aload_n d_MD_doCross_0 rfl ?_
  refine P_getf (i := 3) d_MD_doCross_1 ok_Model (by decide) L_MD_15 em rfl ?_
  refine P_iload_n d_MD_doCross_4 rfl ?_
  refine P_iload_n d_MD_doCross_5 rfl ?_
  refine P_iload_n d_MD_doCross_6 rfl ?_
  refine P_iload d_MD_doCross_7 rfl ?_
  refine P_callS (M := M_MD_doCross) (pc := 9) (as := [.ref 469, .int (nI q), .int (nI a), .int (nI b), .int (nI c)]) d_MD_doCross_9 co_MD_areaOf L_MD_161 sm_MD_areaOf (s_MD_areaOf r469 (by decide) q (by omega) a (by omega) b (by omega) c (by omega) (by omega)) rfl ⟨by decide, by decide⟩ ⟨by decide, by decide⟩ (by exact le_b rfl) ?_ _ rfl
  rintro _ u ⟨⟨v1, rfl⟩, eu⟩
  subst u
  show PW _ _ _ _ _ _ (12, [(0, .ref 467), (1, .int (nI q)), (2, .int (nI a)), (3, .int (nI b)), (4, .int (nI c)), (5, .int (nI d))], [.int v1], w)
  refine P_if_le 19 d_MD_doCross_12 (by decide) (fun c2 => ?_) (fun c2 => ?_)
  · refine P_iconst (v := 0) d_MD_doCross_19 (by decide) ?_
    refine P_aload_n d_MD_doCross_20 rfl ?_
    refine P_getf (i := 3) d_MD_doCross_21 ok_Model (by decide) L_MD_15 em rfl ?_
    refine P_iload_n d_MD_doCross_24 rfl ?_
    refine P_iload_n d_MD_doCross_25 rfl ?_
    refine P_iload_n d_MD_doCross_26 rfl ?_
    refine P_iload d_MD_doCross_27 rfl ?_
    refine P_callS (M := M_MD_doCross) (pc := 29) (as := [.ref 469, .int (nI q), .int (nI a), .int (nI b), .int (nI d)]) d_MD_doCross_29 co_MD_areaOf L_MD_161 sm_MD_areaOf (s_MD_areaOf r469 (by decide) q (by omega) a (by omega) b (by omega) d (by omega) (by omega)) rfl ⟨by decide, by decide⟩ ⟨by decide, by decide⟩ (by exact le_b rfl) ?_ _ rfl
    rintro _ u ⟨⟨v3, rfl⟩, eu⟩
    subst u
    show PW _ _ _ _ _ _ (32, [(0, .ref 467), (1, .int (nI q)), (2, .int (nI a)), (3, .int (nI b)), (4, .int (nI c)), (5, .int (nI d))], [.int v3, .int 0], w)
    refine P_if_le 39 d_MD_doCross_32 (by decide) (fun c4 => ?_) (fun c4 => ?_)
    · refine P_iconst (v := 0) d_MD_doCross_39 (by decide) ?_
      refine P_icmp_eq 47 d_MD_doCross_40 (by decide) (fun _ => ?_) (fun h => absurd (by decide) h)
      refine P_iconst (v := 0) d_MD_doCross_47 (by decide) ?_
      refine P_istore d_MD_doCross_48 (by decide) rfl ?_
      refine P_iload d_MD_doCross_50 rfl ?_
      refine P_if_eq 104 d_MD_doCross_52 (by decide) (fun _ => ?_) (fun h => absurd (by decide) h)
      refine P_iconst (v := 0) d_MD_doCross_104 (by decide) ?_
      exact P_zret d_MD_doCross_105 rfl rfl (le_b rfl) (le_b rfl) ⟨⟨false, rfl⟩, rfl⟩
    · refine P_iconst (v := 1) d_MD_doCross_35 (by decide) ?_
      refine P_goto 40 d_MD_doCross_36 (by decide) ?_
      refine P_icmp_eq 47 d_MD_doCross_40 (by decide) (fun h => absurd h (by decide)) (fun _ => ?_)
      refine P_iconst (v := 1) d_MD_doCross_43 (by decide) ?_
      refine P_goto 48 d_MD_doCross_44 (by decide) ?_
      refine P_istore d_MD_doCross_48 (by decide) rfl ?_
      refine P_iload d_MD_doCross_50 rfl ?_
      refine P_if_eq 104 d_MD_doCross_52 (by decide) (fun h => absurd h (by decide)) (fun _ => ?_)
      refine P_aload_n d_MD_doCross_55 rfl ?_
      refine P_getf (i := 3) d_MD_doCross_56 ok_Model (by decide) L_MD_15 em rfl ?_
      refine P_iload_n d_MD_doCross_59 rfl ?_
      refine P_iload d_MD_doCross_60 rfl ?_
      refine P_iload d_MD_doCross_62 rfl ?_
      refine P_iload_n d_MD_doCross_64 rfl ?_
      refine P_callS (M := M_MD_doCross) (pc := 65) (as := [.ref 469, .int (nI q), .int (nI c), .int (nI d), .int (nI a)]) d_MD_doCross_65 co_MD_areaOf L_MD_161 sm_MD_areaOf (s_MD_areaOf r469 (by decide) q (by omega) c (by omega) d (by omega) a (by omega) (by omega)) rfl ⟨by decide, by decide⟩ ⟨by decide, by decide⟩ (by exact le_b rfl) ?_ _ rfl
      rintro _ u ⟨⟨v5, rfl⟩, eu⟩
      subst u
      show PW _ _ _ _ _ _ (68, [(0, .ref 467), (1, .int (nI q)), (2, .int (nI a)), (3, .int (nI b)), (4, .int (nI c)), (5, .int (nI d)), (6, .int 1)], [.int v5], w)
      refine P_if_le 75 d_MD_doCross_68 (by decide) (fun c6 => ?_) (fun c6 => ?_)
      · refine P_iconst (v := 0) d_MD_doCross_75 (by decide) ?_
        refine P_aload_n d_MD_doCross_76 rfl ?_
        refine P_getf (i := 3) d_MD_doCross_77 ok_Model (by decide) L_MD_15 em rfl ?_
        refine P_iload_n d_MD_doCross_80 rfl ?_
        refine P_iload d_MD_doCross_81 rfl ?_
        refine P_iload d_MD_doCross_83 rfl ?_
        refine P_iload_n d_MD_doCross_85 rfl ?_
        refine P_callS (M := M_MD_doCross) (pc := 86) (as := [.ref 469, .int (nI q), .int (nI c), .int (nI d), .int (nI b)]) d_MD_doCross_86 co_MD_areaOf L_MD_161 sm_MD_areaOf (s_MD_areaOf r469 (by decide) q (by omega) c (by omega) d (by omega) b (by omega) (by omega)) rfl ⟨by decide, by decide⟩ ⟨by decide, by decide⟩ (by exact le_b rfl) ?_ _ rfl
        rintro _ u ⟨⟨v7, rfl⟩, eu⟩
        subst u
        show PW _ _ _ _ _ _ (89, [(0, .ref 467), (1, .int (nI q)), (2, .int (nI a)), (3, .int (nI b)), (4, .int (nI c)), (5, .int (nI d)), (6, .int 1)], [.int v7, .int 0], w)
        refine P_if_le 96 d_MD_doCross_89 (by decide) (fun c8 => ?_) (fun c8 => ?_)
        · refine P_iconst (v := 0) d_MD_doCross_96 (by decide) ?_
          refine P_icmp_eq 104 d_MD_doCross_97 (by decide) (fun _ => ?_) (fun h => absurd (by decide) h)
          refine P_iconst (v := 0) d_MD_doCross_104 (by decide) ?_
          exact P_zret d_MD_doCross_105 rfl rfl (le_b rfl) (le_b rfl) ⟨⟨false, rfl⟩, rfl⟩
        · refine P_iconst (v := 1) d_MD_doCross_92 (by decide) ?_
          refine P_goto 97 d_MD_doCross_93 (by decide) ?_
          refine P_icmp_eq 104 d_MD_doCross_97 (by decide) (fun h => absurd h (by decide)) (fun _ => ?_)
          refine P_iconst (v := 1) d_MD_doCross_100 (by decide) ?_
          refine P_goto 105 d_MD_doCross_101 (by decide) ?_
          exact P_zret d_MD_doCross_105 rfl rfl (le_b rfl) (le_b rfl) ⟨⟨true, rfl⟩, rfl⟩
      · refine P_iconst (v := 1) d_MD_doCross_71 (by decide) ?_
        refine P_goto 76 d_MD_doCross_72 (by decide) ?_
        refine P_aload_n d_MD_doCross_76 rfl ?_
        refine P_getf (i := 3) d_MD_doCross_77 ok_Model (by decide) L_MD_15 em rfl ?_
        refine P_iload_n d_MD_doCross_80 rfl ?_
        refine P_iload d_MD_doCross_81 rfl ?_
        refine P_iload d_MD_doCross_83 rfl ?_
        refine P_iload_n d_MD_doCross_85 rfl ?_
        refine P_callS (M := M_MD_doCross) (pc := 86) (as := [.ref 469, .int (nI q), .int (nI c), .int (nI d), .int (nI b)]) d_MD_doCross_86 co_MD_areaOf L_MD_161 sm_MD_areaOf (s_MD_areaOf r469 (by decide) q (by omega) c (by omega) d (by omega) b (by omega) (by omega)) rfl ⟨by decide, by decide⟩ ⟨by decide, by decide⟩ (by exact le_b rfl) ?_ _ rfl
        rintro _ u ⟨⟨v9, rfl⟩, eu⟩
        subst u
        show PW _ _ _ _ _ _ (89, [(0, .ref 467), (1, .int (nI q)), (2, .int (nI a)), (3, .int (nI b)), (4, .int (nI c)), (5, .int (nI d)), (6, .int 1)], [.int v9, .int 1], w)
        refine P_if_le 96 d_MD_doCross_89 (by decide) (fun c10 => ?_) (fun c10 => ?_)
        · refine P_iconst (v := 0) d_MD_doCross_96 (by decide) ?_
          refine P_icmp_eq 104 d_MD_doCross_97 (by decide) (fun h => absurd h (by decide)) (fun _ => ?_)
          refine P_iconst (v := 1) d_MD_doCross_100 (by decide) ?_
          refine P_goto 105 d_MD_doCross_101 (by decide) ?_
          exact P_zret d_MD_doCross_105 rfl rfl (le_b rfl) (le_b rfl) ⟨⟨true, rfl⟩, rfl⟩
        · refine P_iconst (v := 1) d_MD_doCross_92 (by decide) ?_
          refine P_goto 97 d_MD_doCross_93 (by decide) ?_
          refine P_icmp_eq 104 d_MD_doCross_97 (by decide) (fun _ => ?_) (fun h => absurd (by decide) h)
          refine P_iconst (v := 0) d_MD_doCross_104 (by decide) ?_
          exact P_zret d_MD_doCross_105 rfl rfl (le_b rfl) (le_b rfl) ⟨⟨false, rfl⟩, rfl⟩
  · refine P_iconst (v := 1) d_MD_doCross_15 (by decide) ?_
    refine P_goto 20 d_MD_doCross_16 (by decide) ?_
    refine P_aload_n d_MD_doCross_20 rfl ?_
    refine P_getf (i := 3) d_MD_doCross_21 ok_Model (by decide) L_MD_15 em rfl ?_
    refine P_iload_n d_MD_doCross_24 rfl ?_
    refine P_iload_n d_MD_doCross_25 rfl ?_
    refine P_iload_n d_MD_doCross_26 rfl ?_
    refine P_iload d_MD_doCross_27 rfl ?_
    refine P_callS (M := M_MD_doCross) (pc := 29) (as := [.ref 469, .int (nI q), .int (nI a), .int (nI b), .int (nI d)]) d_MD_doCross_29 co_MD_areaOf L_MD_161 sm_MD_areaOf (s_MD_areaOf r469 (by decide) q (by omega) a (by omega) b (by omega) d (by omega) (by omega)) rfl ⟨by decide, by decide⟩ ⟨by decide, by decide⟩ (by exact le_b rfl) ?_ _ rfl
    rintro _ u ⟨⟨v11, rfl⟩, eu⟩
    subst u
    show PW _ _ _ _ _ _ (32, [(0, .ref 467), (1, .int (nI q)), (2, .int (nI a)), (3, .int (nI b)), (4, .int (nI c)), (5, .int (nI d))], [.int v11, .int 1], w)
    refine P_if_le 39 d_MD_doCross_32 (by decide) (fun c12 => ?_) (fun c12 => ?_)
    · refine P_iconst (v := 0) d_MD_doCross_39 (by decide) ?_
      refine P_icmp_eq 47 d_MD_doCross_40 (by decide) (fun h => absurd h (by decide)) (fun _ => ?_)
      refine P_iconst (v := 1) d_MD_doCross_43 (by decide) ?_
      refine P_goto 48 d_MD_doCross_44 (by decide) ?_
      refine P_istore d_MD_doCross_48 (by decide) rfl ?_
      refine P_iload d_MD_doCross_50 rfl ?_
      refine P_if_eq 104 d_MD_doCross_52 (by decide) (fun h => absurd h (by decide)) (fun _ => ?_)
      refine P_aload_n d_MD_doCross_55 rfl ?_
      refine P_getf (i := 3) d_MD_doCross_56 ok_Model (by decide) L_MD_15 em rfl ?_
      refine P_iload_n d_MD_doCross_59 rfl ?_
      refine P_iload d_MD_doCross_60 rfl ?_
      refine P_iload d_MD_doCross_62 rfl ?_
      refine P_iload_n d_MD_doCross_64 rfl ?_
      refine P_callS (M := M_MD_doCross) (pc := 65) (as := [.ref 469, .int (nI q), .int (nI c), .int (nI d), .int (nI a)]) d_MD_doCross_65 co_MD_areaOf L_MD_161 sm_MD_areaOf (s_MD_areaOf r469 (by decide) q (by omega) c (by omega) d (by omega) a (by omega) (by omega)) rfl ⟨by decide, by decide⟩ ⟨by decide, by decide⟩ (by exact le_b rfl) ?_ _ rfl
      rintro _ u ⟨⟨v13, rfl⟩, eu⟩
      subst u
      show PW _ _ _ _ _ _ (68, [(0, .ref 467), (1, .int (nI q)), (2, .int (nI a)), (3, .int (nI b)), (4, .int (nI c)), (5, .int (nI d)), (6, .int 1)], [.int v13], w)
      refine P_if_le 75 d_MD_doCross_68 (by decide) (fun c14 => ?_) (fun c14 => ?_)
      · refine P_iconst (v := 0) d_MD_doCross_75 (by decide) ?_
        refine P_aload_n d_MD_doCross_76 rfl ?_
        refine P_getf (i := 3) d_MD_doCross_77 ok_Model (by decide) L_MD_15 em rfl ?_
        refine P_iload_n d_MD_doCross_80 rfl ?_
        refine P_iload d_MD_doCross_81 rfl ?_
        refine P_iload d_MD_doCross_83 rfl ?_
        refine P_iload_n d_MD_doCross_85 rfl ?_
        refine P_callS (M := M_MD_doCross) (pc := 86) (as := [.ref 469, .int (nI q), .int (nI c), .int (nI d), .int (nI b)]) d_MD_doCross_86 co_MD_areaOf L_MD_161 sm_MD_areaOf (s_MD_areaOf r469 (by decide) q (by omega) c (by omega) d (by omega) b (by omega) (by omega)) rfl ⟨by decide, by decide⟩ ⟨by decide, by decide⟩ (by exact le_b rfl) ?_ _ rfl
        rintro _ u ⟨⟨v15, rfl⟩, eu⟩
        subst u
        show PW _ _ _ _ _ _ (89, [(0, .ref 467), (1, .int (nI q)), (2, .int (nI a)), (3, .int (nI b)), (4, .int (nI c)), (5, .int (nI d)), (6, .int 1)], [.int v15, .int 0], w)
        refine P_if_le 96 d_MD_doCross_89 (by decide) (fun c16 => ?_) (fun c16 => ?_)
        · refine P_iconst (v := 0) d_MD_doCross_96 (by decide) ?_
          refine P_icmp_eq 104 d_MD_doCross_97 (by decide) (fun _ => ?_) (fun h => absurd (by decide) h)
          refine P_iconst (v := 0) d_MD_doCross_104 (by decide) ?_
          exact P_zret d_MD_doCross_105 rfl rfl (le_b rfl) (le_b rfl) ⟨⟨false, rfl⟩, rfl⟩
        · refine P_iconst (v := 1) d_MD_doCross_92 (by decide) ?_
          refine P_goto 97 d_MD_doCross_93 (by decide) ?_
          refine P_icmp_eq 104 d_MD_doCross_97 (by decide) (fun h => absurd h (by decide)) (fun _ => ?_)
          refine P_iconst (v := 1) d_MD_doCross_100 (by decide) ?_
          refine P_goto 105 d_MD_doCross_101 (by decide) ?_
          exact P_zret d_MD_doCross_105 rfl rfl (le_b rfl) (le_b rfl) ⟨⟨true, rfl⟩, rfl⟩
      · refine P_iconst (v := 1) d_MD_doCross_71 (by decide) ?_
        refine P_goto 76 d_MD_doCross_72 (by decide) ?_
        refine P_aload_n d_MD_doCross_76 rfl ?_
        refine P_getf (i := 3) d_MD_doCross_77 ok_Model (by decide) L_MD_15 em rfl ?_
        refine P_iload_n d_MD_doCross_80 rfl ?_
        refine P_iload d_MD_doCross_81 rfl ?_
        refine P_iload d_MD_doCross_83 rfl ?_
        refine P_iload_n d_MD_doCross_85 rfl ?_
        refine P_callS (M := M_MD_doCross) (pc := 86) (as := [.ref 469, .int (nI q), .int (nI c), .int (nI d), .int (nI b)]) d_MD_doCross_86 co_MD_areaOf L_MD_161 sm_MD_areaOf (s_MD_areaOf r469 (by decide) q (by omega) c (by omega) d (by omega) b (by omega) (by omega)) rfl ⟨by decide, by decide⟩ ⟨by decide, by decide⟩ (by exact le_b rfl) ?_ _ rfl
        rintro _ u ⟨⟨v17, rfl⟩, eu⟩
        subst u
        show PW _ _ _ _ _ _ (89, [(0, .ref 467), (1, .int (nI q)), (2, .int (nI a)), (3, .int (nI b)), (4, .int (nI c)), (5, .int (nI d)), (6, .int 1)], [.int v17, .int 1], w)
        refine P_if_le 96 d_MD_doCross_89 (by decide) (fun c18 => ?_) (fun c18 => ?_)
        · refine P_iconst (v := 0) d_MD_doCross_96 (by decide) ?_
          refine P_icmp_eq 104 d_MD_doCross_97 (by decide) (fun h => absurd h (by decide)) (fun _ => ?_)
          refine P_iconst (v := 1) d_MD_doCross_100 (by decide) ?_
          refine P_goto 105 d_MD_doCross_101 (by decide) ?_
          exact P_zret d_MD_doCross_105 rfl rfl (le_b rfl) (le_b rfl) ⟨⟨true, rfl⟩, rfl⟩
        · refine P_iconst (v := 1) d_MD_doCross_92 (by decide) ?_
          refine P_goto 97 d_MD_doCross_93 (by decide) ?_
          refine P_icmp_eq 104 d_MD_doCross_97 (by decide) (fun _ => ?_) (fun h => absurd (by decide) h)
          refine P_iconst (v := 0) d_MD_doCross_104 (by decide) ?_
          exact P_zret d_MD_doCross_105 rfl rfl (le_b rfl) (le_b rfl) ⟨⟨false, rfl⟩, rfl⟩
    · refine P_iconst (v := 1) d_MD_doCross_35 (by decide) ?_
      refine P_goto 40 d_MD_doCross_36 (by decide) ?_
      refine P_icmp_eq 47 d_MD_doCross_40 (by decide) (fun _ => ?_) (fun h => absurd (by decide) h)
      refine P_iconst (v := 0) d_MD_doCross_47 (by decide) ?_
      refine P_istore d_MD_doCross_48 (by decide) rfl ?_
      refine P_iload d_MD_doCross_50 rfl ?_
      refine P_if_eq 104 d_MD_doCross_52 (by decide) (fun _ => ?_) (fun h => absurd (by decide) h)
      refine P_iconst (v := 0) d_MD_doCross_104 (by decide) ?_
      exact P_zret d_MD_doCross_105 rfl rfl (le_b rfl) (le_b rfl) ⟨⟨false, rfl⟩, rfl⟩
theorem s_MD_isNothing {G : pG} {w : pW} {tp qs un : Nat} {nq ln nl sz at_ pl so vl wo fa fp lf lp th rm um sm : Int32} (em : w.2 467 = mO (nI tp) (nI qs) nq (nI un) ln nl sz at_ pl so vl wo fa fp lf lp th rm um sm) (htp : tp ≤ 900) (hqs : qs ≤ 8) (hun : un ≤ 16) {f476 : Nat → Int64} (r476 : w.2 476 = .inl (1, 9, .inr (.inl f476))) : PM G M_MD_isNothing 0 0 0 [.ref 467] w (fun r w' => (∃ v, r = some (.int (bi v))) ∧ w' = w) := by
  refine PM_of pn_MD_isNothing (le_b rfl) ?_
  show PW _ _ _ _ _ _ (0, [(0, .ref 467)], [], w)
  refine P_iconst (v := 0) d_MD_isNothing_0 (by decide) ?_
  refine P_istore_n d_MD_isNothing_1 (by decide) rfl ?_
  refine PW_ind (σ := Unit) (9) (fun jj ss => True) (fun jj ss => (2, [(0, .ref 467), (1, .int (nI jj))], [], w)) ?_ ?_ 0 () (by omega) trivial
  · rintro _ _
    show PW _ _ _ _ _ _ (2, [(0, .ref 467), (1, .int 9)], [], w)
    refine P_iload_n d_MD_isNothing_2 rfl ?_
    refine P_bipush (v := 9) d_MD_isNothing_3 (by decide) ?_
    refine P_icmp_ge 37 d_MD_isNothing_5 (by decide) (fun _ => ?_) (fun h => absurd (by decide) h)
    refine P_iconst (v := 1) d_MD_isNothing_37 (by decide) ?_
    exact P_zret d_MD_isNothing_38 rfl rfl (le_b rfl) (le_b rfl) ⟨⟨true, rfl⟩, rfl⟩
  · rintro j1 _ hj1 _ kkj1
    show PW _ _ _ _ _ _ (2, [(0, .ref 467), (1, .int (nI j1))], [], w)
    refine P_iload_n d_MD_isNothing_2 rfl ?_
    refine P_bipush (v := 9) d_MD_isNothing_3 (by decide) ?_
    refine P_icmp_ge 37 d_MD_isNothing_5 (by decide) (fun h => absurd h (nI_geF (a := j1) (b := 9) (by omega) (by omega))) (fun _ => ?_)
    refine P_aload_n d_MD_isNothing_8 rfl ?_
    refine P_getf (i := 25) d_MD_isNothing_9 ok_Model (by decide) L_MD_41 em rfl ?_
    refine P_iload_n d_MD_isNothing_12 rfl ?_
    refine P_lald (j := j1) d_MD_isNothing_13 r476 (ix_nI (by omega)) (by omega) ?_
    refine P_iload_n d_MD_isNothing_14 rfl ?_
    refine P_iconst (v := 4) d_MD_isNothing_15 (by decide) ?_
    refine P_iremN (a := j1) (b := 4) d_MD_isNothing_16 (by omega) (by omega) (by omega) ?_
    show PW _ _ _ _ _ _ (17, [(0, .ref 467), (1, .int (nI j1))], [.int (nI (j1 % 4)), .long (f476 j1)], w)
    refine P_if_ne 24 d_MD_isNothing_17 (by decide) (fun c2 => ?_) (fun c2 => ?_)
    · have ic2 : (j1 % 4) ≠ 0 := fun q => c2 (congrArg nI q)
      refine P_lconst (v := 0) d_MD_isNothing_24 (by decide) ?_
      refine P_lcmp d_MD_isNothing_25 ?_
      refine P_if_eq 31 d_MD_isNothing_26 (by decide) (fun c3 => ?_) (fun c3 => ?_)
      · refine P_iinc (v := nI (j1 + 1)) d_MD_isNothing_31 (by decide) rfl (nI_add j1 1) rfl ?_
        refine P_goto 2 d_MD_isNothing_34 (by decide) ?_
        exact kkj1 () trivial
      · refine P_iconst (v := 0) d_MD_isNothing_29 (by decide) ?_
        exact P_zret d_MD_isNothing_30 rfl rfl (le_b rfl) (le_b rfl) ⟨⟨false, rfl⟩, rfl⟩
    · have ic2 : (j1 % 4) = 0 := (nI_eq (by omega) (by omega)).mp c2
      refine P_lconst (v := 1) d_MD_isNothing_20 (by decide) ?_
      refine P_goto 25 d_MD_isNothing_21 (by decide) ?_
      refine P_lcmp d_MD_isNothing_25 ?_
      refine P_if_eq 31 d_MD_isNothing_26 (by decide) (fun c4 => ?_) (fun c4 => ?_)
      · refine P_iinc (v := nI (j1 + 1)) d_MD_isNothing_31 (by decide) rfl (nI_add j1 1) rfl ?_
        refine P_goto 2 d_MD_isNothing_34 (by decide) ?_
        exact kkj1 () trivial
      · refine P_iconst (v := 0) d_MD_isNothing_29 (by decide) ?_
        exact P_zret d_MD_isNothing_30 rfl rfl (le_b rfl) (le_b rfl) ⟨⟨false, rfl⟩, rfl⟩
theorem s_MD_isLarge {G : pG} {w : pW} {tp qs un : Nat} {nq ln nl sz at_ pl so vl wo fa fp lf lp th rm um sm : Int32} (em : w.2 467 = mO (nI tp) (nI qs) nq (nI un) ln nl sz at_ pl so vl wo fa fp lf lp th rm um sm) (htp : tp ≤ 900) (hqs : qs ≤ 8) (hun : un ≤ 16) {f476 : Nat → Int64} (r476 : w.2 476 = .inl (1, 9, .inr (.inl f476))) : PM G M_MD_isLarge 1 0 0 [.ref 467] w (fun r w' => (∃ v, r = some (.int (bi v))) ∧ w' = w) := by
  refine PM_of pn_MD_isLarge (le_b rfl) ?_
  show PW _ _ _ _ _ _ (0, [(0, .ref 467)], [], w)
  refine P_iconst (v := 0) d_MD_isLarge_0 (by decide) ?_
  refine P_istore_n d_MD_isLarge_1 (by decide) rfl ?_
  refine PW_ind (σ := Unit) (9) (fun jj ss => True) (fun jj ss => (2, [(0, .ref 467), (1, .int (nI jj))], [], w)) ?_ ?_ 0 () (by omega) trivial
  · rintro _ _
    show PW _ _ _ _ _ _ (2, [(0, .ref 467), (1, .int 9)], [], w)
    refine P_iload_n d_MD_isLarge_2 rfl ?_
    refine P_bipush (v := 9) d_MD_isLarge_3 (by decide) ?_
    refine P_icmp_ge 32 d_MD_isLarge_5 (by decide) (fun _ => ?_) (fun h => absurd (by decide) h)
    refine P_iconst (v := 0) d_MD_isLarge_32 (by decide) ?_
    exact P_zret d_MD_isLarge_33 rfl rfl (le_b rfl) (le_b rfl) ⟨⟨false, rfl⟩, rfl⟩
  · rintro j1 _ hj1 _ kkj1
    show PW _ _ _ _ _ _ (2, [(0, .ref 467), (1, .int (nI j1))], [], w)
    refine P_iload_n d_MD_isLarge_2 rfl ?_
    refine P_bipush (v := 9) d_MD_isLarge_3 (by decide) ?_
    refine P_icmp_ge 32 d_MD_isLarge_5 (by decide) (fun h => absurd h (nI_geF (a := j1) (b := 9) (by omega) (by omega))) (fun _ => ?_)
    refine P_aload_n d_MD_isLarge_8 rfl ?_
    refine P_getf (i := 25) d_MD_isLarge_9 ok_Model (by decide) L_MD_41 em rfl ?_
    refine P_iload_n d_MD_isLarge_12 rfl ?_
    refine P_lald (j := j1) d_MD_isLarge_13 r476 (ix_nI (by omega)) (by omega) ?_
    refine P_mabslZ d_MD_isLarge_14 L_MD_210 st_abs in_Math cd_abs ⟨by decide, by decide, by decide, by decide⟩ (by exact le_b rfl) (fun zz2 => ?_)
    show PW _ _ _ _ _ _ (17, [(0, .ref 467), (1, .int (nI j1))], [.long zz2], w)
    refine P_ldc2 (v := 1000000000) d_MD_isLarge_17 L_MD_224 ?_
    refine P_lcmp d_MD_isLarge_20 ?_
    refine P_if_le 26 d_MD_isLarge_21 (by decide) (fun c3 => ?_) (fun c3 => ?_)
    · refine P_iinc (v := nI (j1 + 1)) d_MD_isLarge_26 (by decide) rfl (nI_add j1 1) rfl ?_
      refine P_goto 2 d_MD_isLarge_29 (by decide) ?_
      exact kkj1 () trivial
    · refine P_iconst (v := 1) d_MD_isLarge_24 (by decide) ?_
      exact P_zret d_MD_isLarge_25 rfl rfl (le_b rfl) (le_b rfl) ⟨⟨true, rfl⟩, rfl⟩
theorem s_MD_isLike {G : pG} {w : pW} (m : Nat) (hm : m < 16) {tp qs un : Nat} {nq ln nl sz at_ pl so vl wo fa fp lf lp th rm um sm : Int32} (em : w.2 467 = mO (nI tp) (nI qs) nq (nI un) ln nl sz at_ pl so vl wo fa fp lf lp th rm um sm) (htp : tp ≤ 900) (hqs : qs ≤ 8) (hun : un ≤ 16) {fn : Nat → Int64} (r471 : w.2 471 = .inl (1, 170, .inr (.inl fn))) {nm np : Nat} (hnm : nm ≤ 16) (e8 : fn 168 = lN nm) (hnp : np ≤ 8) (e9 : fn 169 = lN np) {f476 : Nat → Int64} (r476 : w.2 476 = .inl (1, 9, .inr (.inl f476))) : PM G M_MD_isLike 0 0 0 [.ref 467, .int (nI m)] w (fun r w' => (∃ v, r = some (.int (bi v))) ∧ w' = w) := by
  refine PM_of pn_MD_isLike (le_b rfl) ?_
  show PW _ _ _ _ _ _ (0, [(0, .ref 467), (1, .int (nI m))], [], w)
  refine P_iconst (v := 0) d_MD_isLike_0 (by decide) ?_
  refine P_istore_n d_MD_isLike_1 (by decide) rfl ?_
  refine PW_ind (σ := Unit) (9) (fun jj ss => True) (fun jj ss => (2, [(0, .ref 467), (1, .int (nI m)), (2, .int (nI jj))], [], w)) ?_ ?_ 0 () (by omega) trivial
  · rintro _ _
    show PW _ _ _ _ _ _ (2, [(0, .ref 467), (1, .int (nI m)), (2, .int 9)], [], w)
    refine P_iload_n d_MD_isLike_2 rfl ?_
    refine P_bipush (v := 9) d_MD_isLike_3 (by decide) ?_
    refine P_icmp_ge 37 d_MD_isLike_5 (by decide) (fun _ => ?_) (fun h => absurd (by decide) h)
    refine P_iconst (v := 1) d_MD_isLike_37 (by decide) ?_
    exact P_zret d_MD_isLike_38 rfl rfl (le_b rfl) (le_b rfl) ⟨⟨true, rfl⟩, rfl⟩
  · rintro j1 _ hj1 _ kkj1
    show PW _ _ _ _ _ _ (2, [(0, .ref 467), (1, .int (nI m)), (2, .int (nI j1))], [], w)
    refine P_iload_n d_MD_isLike_2 rfl ?_
    refine P_bipush (v := 9) d_MD_isLike_3 (by decide) ?_
    refine P_icmp_ge 37 d_MD_isLike_5 (by decide) (fun h => absurd h (nI_geF (a := j1) (b := 9) (by omega) (by omega))) (fun _ => ?_)
    refine P_aload_n d_MD_isLike_8 rfl ?_
    refine P_getf (i := 25) d_MD_isLike_9 ok_Model (by decide) L_MD_41 em rfl ?_
    refine P_iload_n d_MD_isLike_12 rfl ?_
    refine P_lald (j := j1) d_MD_isLike_13 r476 (ix_nI (by omega)) (by omega) ?_
    refine P_aload_n d_MD_isLike_14 rfl ?_
    refine P_getf (i := 7) d_MD_isLike_15 ok_Model (by decide) L_MD_21 em rfl ?_
    refine P_bipush (v := 9) d_MD_isLike_18 (by decide) ?_
    refine P_iload_n d_MD_isLike_20 rfl ?_
    refine P_imulN (a := 9) (b := m) d_MD_isLike_21 ?_
    show PW _ _ _ _ _ _ (22, [(0, .ref 467), (1, .int (nI m)), (2, .int (nI j1))], [.int (nI (9 * m)), .ref 471, .long (f476 j1)], w)
    refine P_iload_n d_MD_isLike_22 rfl ?_
    refine P_iaddN (a := (9 * m)) (b := j1) d_MD_isLike_23 ?_
    show PW _ _ _ _ _ _ (24, [(0, .ref 467), (1, .int (nI m)), (2, .int (nI j1))], [.int (nI ((9 * m) + j1)), .ref 471, .long (f476 j1)], w)
    refine P_lald (j := (9 * m) + j1) d_MD_isLike_24 r471 (ix_nI (by omega)) (by omega) ?_
    refine P_lcmp d_MD_isLike_25 ?_
    refine P_if_eq 31 d_MD_isLike_26 (by decide) (fun c2 => ?_) (fun c2 => ?_)
    · refine P_iinc (v := nI (j1 + 1)) d_MD_isLike_31 (by decide) rfl (nI_add j1 1) rfl ?_
      refine P_goto 2 d_MD_isLike_34 (by decide) ?_
      exact kkj1 () trivial
    · refine P_iconst (v := 0) d_MD_isLike_29 (by decide) ?_
      exact P_zret d_MD_isLike_30 rfl rfl (le_b rfl) (le_b rfl) ⟨⟨false, rfl⟩, rfl⟩
theorem s_Long_signum {G : pG} {w : pW} (x : Int64) : PM G M_Long_signum 0 0 0 [.long x] w (fun r w' => (∃ v, r = some (.int v)) ∧ w' = w) := by
  refine PM_of pn_Long_signum (le_b rfl) ?_
  show PW _ _ _ _ _ _ (0, [(0, .long x)], [], w)
  refine P_lload_n d_Long_signum_0 rfl ?_
  refine P_bipush (v := 63) d_Long_signum_1 (by decide) ?_
  refine P_lshr d_Long_signum_3 ?_
  generalize x >>> (((63 : Int32).toInt64) &&& 63) = zz1
  show PW _ _ _ _ _ _ (4, [(0, .long x)], [.long zz1], w)
  refine P_lload_n d_Long_signum_4 rfl ?_
  refine P_lneg d_Long_signum_5 ?_
  refine P_bipush (v := 63) d_Long_signum_6 (by decide) ?_
  refine P_lushr d_Long_signum_8 ?_
  generalize ((-x).toUInt64 >>> (((63 : Int32).toInt64).toUInt64 &&& Int64.toUInt64 63)).toInt64 = zz2
  show PW _ _ _ _ _ _ (9, [(0, .long x)], [.long zz2, .long zz1], w)
  refine P_lor d_Long_signum_9 ?_
  generalize zz1 ||| zz2 = zz3
  show PW _ _ _ _ _ _ (10, [(0, .long x)], [.long zz3], w)
  refine P_l2i d_Long_signum_10 ?_
  exact P_iret d_Long_signum_11 rfl (le_b rfl) (le_b rfl) ⟨⟨_, rfl⟩, rfl⟩
theorem s_MD_sideOf {G : pG} {w : pW} (m : Nat) (hm : m < 16) (x : Int64) (y : Int64) (z : Int64) {tp qs un : Nat} {nq ln nl sz at_ pl so vl wo fa fp lf lp th rm um sm : Int32} (em : w.2 467 = mO (nI tp) (nI qs) nq (nI un) ln nl sz at_ pl so vl wo fa fp lf lp th rm um sm) (htp : tp ≤ 900) (hqs : qs ≤ 8) (hun : un ≤ 16) {fn : Nat → Int64} (r471 : w.2 471 = .inl (1, 170, .inr (.inl fn))) {nm np : Nat} (hnm : nm ≤ 16) (e8 : fn 168 = lN nm) (hnp : np ≤ 8) (e9 : fn 169 = lN np) : PM G M_MD_sideOf 1 0 0 [.ref 467, .int (nI m), .long x, .long y, .long z] w (fun r w' => (∃ v, r = some (.int v)) ∧ w' = w) := by
  refine PM_of pn_MD_sideOf (le_b rfl) ?_
  show PW _ _ _ _ _ _ (0, [(0, .ref 467), (1, .int (nI m)), (2, .long x), (4, .long y), (6, .long z)], [], w)
  refine P_aload_n d_MD_sideOf_0 rfl ?_
  refine P_getf (i := 7) d_MD_sideOf_1 ok_Model (by decide) L_MD_21 em rfl ?_
  refine P_bipush (v := 9) d_MD_sideOf_4 (by decide) ?_
  refine P_iload_n d_MD_sideOf_6 rfl ?_
  refine P_imulN (a := 9) (b := m) d_MD_sideOf_7 ?_
  show PW _ _ _ _ _ _ (8, [(0, .ref 467), (1, .int (nI m)), (2, .long x), (4, .long y), (6, .long z)], [.int (nI (9 * m)), .ref 471], w)
  refine P_bipush (v := 6) d_MD_sideOf_8 (by decide) ?_
  refine P_iaddN (a := (9 * m)) (b := 6) d_MD_sideOf_10 ?_
  show PW _ _ _ _ _ _ (11, [(0, .ref 467), (1, .int (nI m)), (2, .long x), (4, .long y), (6, .long z)], [.int (nI ((9 * m) + 6)), .ref 471], w)
  refine P_lald (j := (9 * m) + 6) d_MD_sideOf_11 r471 (ix_nI (by omega)) (by omega) ?_
  refine P_lload_n d_MD_sideOf_12 rfl ?_
  refine P_lmul d_MD_sideOf_13 ?_
  refine P_aload_n d_MD_sideOf_14 rfl ?_
  refine P_getf (i := 7) d_MD_sideOf_15 ok_Model (by decide) L_MD_21 em rfl ?_
  refine P_bipush (v := 9) d_MD_sideOf_18 (by decide) ?_
  refine P_iload_n d_MD_sideOf_20 rfl ?_
  refine P_imulN (a := 9) (b := m) d_MD_sideOf_21 ?_
  show PW _ _ _ _ _ _ (22, [(0, .ref 467), (1, .int (nI m)), (2, .long x), (4, .long y), (6, .long z)], [.int (nI (9 * m)), .ref 471, .long ((fn ((9 * m) + 6)) * x)], w)
  refine P_bipush (v := 7) d_MD_sideOf_22 (by decide) ?_
  refine P_iaddN (a := (9 * m)) (b := 7) d_MD_sideOf_24 ?_
  show PW _ _ _ _ _ _ (25, [(0, .ref 467), (1, .int (nI m)), (2, .long x), (4, .long y), (6, .long z)], [.int (nI ((9 * m) + 7)), .ref 471, .long ((fn ((9 * m) + 6)) * x)], w)
  refine P_lald (j := (9 * m) + 7) d_MD_sideOf_25 r471 (ix_nI (by omega)) (by omega) ?_
  refine P_lload d_MD_sideOf_26 rfl ?_
  refine P_lmul d_MD_sideOf_28 ?_
  refine P_ladd d_MD_sideOf_29 ?_
  refine P_aload_n d_MD_sideOf_30 rfl ?_
  refine P_getf (i := 7) d_MD_sideOf_31 ok_Model (by decide) L_MD_21 em rfl ?_
  refine P_bipush (v := 9) d_MD_sideOf_34 (by decide) ?_
  refine P_iload_n d_MD_sideOf_36 rfl ?_
  refine P_imulN (a := 9) (b := m) d_MD_sideOf_37 ?_
  show PW _ _ _ _ _ _ (38, [(0, .ref 467), (1, .int (nI m)), (2, .long x), (4, .long y), (6, .long z)], [.int (nI (9 * m)), .ref 471, .long (((fn ((9 * m) + 6)) * x) + ((fn ((9 * m) + 7)) * y))], w)
  refine P_bipush (v := 8) d_MD_sideOf_38 (by decide) ?_
  refine P_iaddN (a := (9 * m)) (b := 8) d_MD_sideOf_40 ?_
  show PW _ _ _ _ _ _ (41, [(0, .ref 467), (1, .int (nI m)), (2, .long x), (4, .long y), (6, .long z)], [.int (nI ((9 * m) + 8)), .ref 471, .long (((fn ((9 * m) + 6)) * x) + ((fn ((9 * m) + 7)) * y))], w)
  refine P_lald (j := (9 * m) + 8) d_MD_sideOf_41 r471 (ix_nI (by omega)) (by omega) ?_
  refine P_lload d_MD_sideOf_42 rfl ?_
  refine P_lmul d_MD_sideOf_44 ?_
  refine P_ladd d_MD_sideOf_45 ?_
  generalize (((fn ((9 * m) + 6)) * x) + ((fn ((9 * m) + 7)) * y)) + ((fn ((9 * m) + 8)) * z) = zz1
  show PW _ _ _ _ _ _ (46, [(0, .ref 467), (1, .int (nI m)), (2, .long x), (4, .long y), (6, .long z)], [.long zz1], w)
  refine P_callS (M := M_MD_sideOf) (pc := 46) (as := [.long zz1]) d_MD_sideOf_46 co_Long_signum L_MD_311 sm_Long_signum (s_Long_signum zz1) rfl ⟨by decide, by decide⟩ ⟨by decide, by decide⟩ (by exact le_b rfl) ?_ _ rfl
  rintro _ u ⟨⟨v2, rfl⟩, eu⟩
  subst u
  show PW _ _ _ _ _ _ (49, [(0, .ref 467), (1, .int (nI m)), (2, .long x), (4, .long y), (6, .long z)], [.int v2], w)
  exact P_iret d_MD_sideOf_49 rfl (le_b rfl) (le_b rfl) ⟨⟨_, rfl⟩, rfl⟩
theorem s_MD_sideOfCorner {G : pG} {w : pW} (m : Nat) (hm : m < 16) (q : Nat) (hq : q < 8) (k : Nat) (hk : k < 4) {tp qs un : Nat} {nq ln nl sz at_ pl so vl wo fa fp lf lp th rm um sm : Int32} (em : w.2 467 = mO (nI tp) (nI qs) nq (nI un) ln nl sz at_ pl so vl wo fa fp lf lp th rm um sm) (htp : tp ≤ 900) (hqs : qs ≤ 8) (hun : un ≤ 16) {f469 : Nat → Int32} (r469 : w.2 469 = .inl (0, 64, .inl f469)) {fn : Nat → Int64} (r471 : w.2 471 = .inl (1, 170, .inr (.inl fn))) {nm np : Nat} (hnm : nm ≤ 16) (e8 : fn 168 = lN nm) (hnp : np ≤ 8) (e9 : fn 169 = lN np) : PM G M_MD_sideOfCorner 2 0 0 [.ref 467, .int (nI m), .int (nI q), .int (nI k)] w (fun r w' => (∃ v, r = some (.int v)) ∧ w' = w) := by
  refine PM_of pn_MD_sideOfCorner (le_b rfl) ?_
  show PW _ _ _ _ _ _ (0, [(0, .ref 467), (1, .int (nI m)), (2, .int (nI q)), (3, .int (nI k))], [], w)
  refine P_aload_n d_MD_sideOfCorner_0 rfl ?_
  refine P_iload_n d_MD_sideOfCorner_1 rfl ?_
  refine P_aload_n d_MD_sideOfCorner_2 rfl ?_
  refine P_getf (i := 3) d_MD_sideOfCorner_3 ok_Model (by decide) L_MD_15 em rfl ?_
  refine P_bipush (v := 8) d_MD_sideOfCorner_6 (by decide) ?_
  refine P_iload_n d_MD_sideOfCorner_8 rfl ?_
  refine P_imulN (a := 8) (b := q) d_MD_sideOfCorner_9 ?_
  show PW _ _ _ _ _ _ (10, [(0, .ref 467), (1, .int (nI m)), (2, .int (nI q)), (3, .int (nI k))], [.int (nI (8 * q)), .ref 469, .int (nI m), .ref 467], w)
  refine P_iconst (v := 2) d_MD_sideOfCorner_10 (by decide) ?_
  refine P_iload_n d_MD_sideOfCorner_11 rfl ?_
  refine P_imulN (a := 2) (b := k) d_MD_sideOfCorner_12 ?_
  show PW _ _ _ _ _ _ (13, [(0, .ref 467), (1, .int (nI m)), (2, .int (nI q)), (3, .int (nI k))], [.int (nI (2 * k)), .int (nI (8 * q)), .ref 469, .int (nI m), .ref 467], w)
  refine P_iaddN (a := (8 * q)) (b := (2 * k)) d_MD_sideOfCorner_13 ?_
  show PW _ _ _ _ _ _ (14, [(0, .ref 467), (1, .int (nI m)), (2, .int (nI q)), (3, .int (nI k))], [.int (nI ((8 * q) + (2 * k))), .ref 469, .int (nI m), .ref 467], w)
  refine P_iald (j := (8 * q) + (2 * k)) d_MD_sideOfCorner_14 r469 (ix_nI (by omega)) (by omega) ?_
  refine P_i2l d_MD_sideOfCorner_15 ?_
  refine P_aload_n d_MD_sideOfCorner_16 rfl ?_
  refine P_getf (i := 3) d_MD_sideOfCorner_17 ok_Model (by decide) L_MD_15 em rfl ?_
  refine P_bipush (v := 8) d_MD_sideOfCorner_20 (by decide) ?_
  refine P_iload_n d_MD_sideOfCorner_22 rfl ?_
  refine P_imulN (a := 8) (b := q) d_MD_sideOfCorner_23 ?_
  show PW _ _ _ _ _ _ (24, [(0, .ref 467), (1, .int (nI m)), (2, .int (nI q)), (3, .int (nI k))], [.int (nI (8 * q)), .ref 469, .long ((f469 ((8 * q) + (2 * k))).toInt64), .int (nI m), .ref 467], w)
  refine P_iconst (v := 2) d_MD_sideOfCorner_24 (by decide) ?_
  refine P_iload_n d_MD_sideOfCorner_25 rfl ?_
  refine P_imulN (a := 2) (b := k) d_MD_sideOfCorner_26 ?_
  show PW _ _ _ _ _ _ (27, [(0, .ref 467), (1, .int (nI m)), (2, .int (nI q)), (3, .int (nI k))], [.int (nI (2 * k)), .int (nI (8 * q)), .ref 469, .long ((f469 ((8 * q) + (2 * k))).toInt64), .int (nI m), .ref 467], w)
  refine P_iaddN (a := (8 * q)) (b := (2 * k)) d_MD_sideOfCorner_27 ?_
  show PW _ _ _ _ _ _ (28, [(0, .ref 467), (1, .int (nI m)), (2, .int (nI q)), (3, .int (nI k))], [.int (nI ((8 * q) + (2 * k))), .ref 469, .long ((f469 ((8 * q) + (2 * k))).toInt64), .int (nI m), .ref 467], w)
  refine P_iconst (v := 1) d_MD_sideOfCorner_28 (by decide) ?_
  refine P_iaddN (a := ((8 * q) + (2 * k))) (b := 1) d_MD_sideOfCorner_29 ?_
  show PW _ _ _ _ _ _ (30, [(0, .ref 467), (1, .int (nI m)), (2, .int (nI q)), (3, .int (nI k))], [.int (nI (((8 * q) + (2 * k)) + 1)), .ref 469, .long ((f469 ((8 * q) + (2 * k))).toInt64), .int (nI m), .ref 467], w)
  refine P_iald (j := ((8 * q) + (2 * k)) + 1) d_MD_sideOfCorner_30 r469 (ix_nI (by omega)) (by omega) ?_
  refine P_i2l d_MD_sideOfCorner_31 ?_
  refine P_lconst (v := 1) d_MD_sideOfCorner_32 (by decide) ?_
  refine P_callV (M := M_MD_sideOfCorner) (pc := 33) (as := [.int (nI m), .long ((f469 ((8 * q) + (2 * k))).toInt64), .long ((f469 (((8 * q) + (2 * k)) + 1)).toInt64), .long 1]) (b := 467) d_MD_sideOfCorner_33 co_MD_sideOf ok_Model em L_MD_315 im_MD_sideOf se_MD_sideOf (s_MD_sideOf m (by omega) ((f469 ((8 * q) + (2 * k))).toInt64) ((f469 (((8 * q) + (2 * k)) + 1)).toInt64) 1 em htp hqs hun r471 hnm e8 hnp e9) rfl ⟨by decide, by decide⟩ ⟨by decide, by decide⟩ (by exact le_b rfl) ?_ _ rfl
  rintro _ u ⟨⟨v1, rfl⟩, eu⟩
  subst u
  show PW _ _ _ _ _ _ (36, [(0, .ref 467), (1, .int (nI m)), (2, .int (nI q)), (3, .int (nI k))], [.int v1], w)
  exact P_iret d_MD_sideOfCorner_36 rfl (le_b rfl) (le_b rfl) ⟨⟨_, rfl⟩, rfl⟩
theorem s_MD_kindOfNine {G : pG} {w : pW} {tp qs un : Nat} {nq ln nl sz at_ pl so vl wo fa fp lf lp th rm um sm : Int32} (em : w.2 467 = mO (nI tp) (nI qs) nq (nI un) ln nl sz at_ pl so vl wo fa fp lf lp th rm um sm) (htp : tp ≤ 900) (hqs : qs ≤ 8) (hun : un ≤ 16) {f476 : Nat → Int64} (r476 : w.2 476 = .inl (1, 9, .inr (.inl f476))) : PM G M_MD_kindOfNine 1 0 0 [.ref 467] w (fun r w' => (∃ v, r = some (.int v)) ∧ w' = w) := by
  refine PM_of pn_MD_kindOfNine (le_b rfl) ?_
  show PW _ _ _ _ _ _ (0, [(0, .ref 467)], [], w)
  refine P_aload_n d_MD_kindOfNine_0 rfl ?_
  refine P_callV (M := M_MD_kindOfNine) (pc := 1) (as := []) (b := 467) d_MD_kindOfNine_1 co_MD_isNothing ok_Model em L_MD_326 im_MD_isNothing se_MD_isNothing (s_MD_isNothing em htp hqs hun r476) rfl ⟨by decide, by decide⟩ ⟨by decide, by decide⟩ (by exact le_b rfl) ?_ _ rfl
  rintro _ u ⟨⟨v1, rfl⟩, eu⟩
  subst u
  show PW _ _ _ _ _ _ (4, [(0, .ref 467)], [.int (bi v1)], w)
  refine P_if_eq 9 d_MD_kindOfNine_4 (by decide) (fun c2 => ?_) (fun c2 => ?_)
  · refine P_aload_n d_MD_kindOfNine_9 rfl ?_
    refine P_getf (i := 25) d_MD_kindOfNine_10 ok_Model (by decide) L_MD_41 em rfl ?_
    refine P_bipush (v := 6) d_MD_kindOfNine_13 (by decide) ?_
    refine P_lald (j := 6) d_MD_kindOfNine_15 r476 ⟨by decide, by decide⟩ (by decide) ?_
    refine P_lconst (v := 0) d_MD_kindOfNine_16 (by decide) ?_
    refine P_lcmp d_MD_kindOfNine_17 ?_
    refine P_if_ne 33 d_MD_kindOfNine_18 (by decide) (fun c3 => ?_) (fun c3 => ?_)
    · refine P_iconst (v := 5) d_MD_kindOfNine_33 (by decide) ?_
      exact P_iret d_MD_kindOfNine_34 rfl (le_b rfl) (le_b rfl) ⟨⟨_, rfl⟩, rfl⟩
    · refine P_aload_n d_MD_kindOfNine_21 rfl ?_
      refine P_getf (i := 25) d_MD_kindOfNine_22 ok_Model (by decide) L_MD_41 em rfl ?_
      refine P_bipush (v := 7) d_MD_kindOfNine_25 (by decide) ?_
      refine P_lald (j := 7) d_MD_kindOfNine_27 r476 ⟨by decide, by decide⟩ (by decide) ?_
      refine P_lconst (v := 0) d_MD_kindOfNine_28 (by decide) ?_
      refine P_lcmp d_MD_kindOfNine_29 ?_
      refine P_if_eq 35 d_MD_kindOfNine_30 (by decide) (fun c4 => ?_) (fun c4 => ?_)
      · refine P_aload_n d_MD_kindOfNine_35 rfl ?_
        refine P_getf (i := 25) d_MD_kindOfNine_36 ok_Model (by decide) L_MD_41 em rfl ?_
        refine P_bipush (v := 8) d_MD_kindOfNine_39 (by decide) ?_
        refine P_lald (j := 8) d_MD_kindOfNine_41 r476 ⟨by decide, by decide⟩ (by decide) ?_
        refine P_lstore_n d_MD_kindOfNine_42 (by decide) rfl ?_
        refine P_aload_n d_MD_kindOfNine_43 rfl ?_
        refine P_getf (i := 25) d_MD_kindOfNine_44 ok_Model (by decide) L_MD_41 em rfl ?_
        refine P_iconst (v := 1) d_MD_kindOfNine_47 (by decide) ?_
        refine P_lald (j := 1) d_MD_kindOfNine_48 r476 ⟨by decide, by decide⟩ (by decide) ?_
        refine P_lconst (v := 0) d_MD_kindOfNine_49 (by decide) ?_
        refine P_lcmp d_MD_kindOfNine_50 ?_
        refine P_if_ne 89 d_MD_kindOfNine_51 (by decide) (fun c5 => ?_) (fun c5 => ?_)
        · refine P_aload_n d_MD_kindOfNine_89 rfl ?_
          refine P_getf (i := 25) d_MD_kindOfNine_90 ok_Model (by decide) L_MD_41 em rfl ?_
          refine P_iconst (v := 0) d_MD_kindOfNine_93 (by decide) ?_
          refine P_lald (j := 0) d_MD_kindOfNine_94 r476 ⟨by decide, by decide⟩ (by decide) ?_
          refine P_aload_n d_MD_kindOfNine_95 rfl ?_
          refine P_getf (i := 25) d_MD_kindOfNine_96 ok_Model (by decide) L_MD_41 em rfl ?_
          refine P_iconst (v := 0) d_MD_kindOfNine_99 (by decide) ?_
          refine P_lald (j := 0) d_MD_kindOfNine_100 r476 ⟨by decide, by decide⟩ (by decide) ?_
          refine P_lmul d_MD_kindOfNine_101 ?_
          refine P_aload_n d_MD_kindOfNine_102 rfl ?_
          refine P_getf (i := 25) d_MD_kindOfNine_103 ok_Model (by decide) L_MD_41 em rfl ?_
          refine P_iconst (v := 3) d_MD_kindOfNine_106 (by decide) ?_
          refine P_lald (j := 3) d_MD_kindOfNine_107 r476 ⟨by decide, by decide⟩ (by decide) ?_
          refine P_aload_n d_MD_kindOfNine_108 rfl ?_
          refine P_getf (i := 25) d_MD_kindOfNine_109 ok_Model (by decide) L_MD_41 em rfl ?_
          refine P_iconst (v := 3) d_MD_kindOfNine_112 (by decide) ?_
          refine P_lald (j := 3) d_MD_kindOfNine_113 r476 ⟨by decide, by decide⟩ (by decide) ?_
          refine P_lmul d_MD_kindOfNine_114 ?_
          refine P_ladd d_MD_kindOfNine_115 ?_
          refine P_lstore_n d_MD_kindOfNine_116 (by decide) rfl ?_
          refine P_aload_n d_MD_kindOfNine_117 rfl ?_
          refine P_getf (i := 25) d_MD_kindOfNine_118 ok_Model (by decide) L_MD_41 em rfl ?_
          refine P_iconst (v := 1) d_MD_kindOfNine_121 (by decide) ?_
          refine P_lald (j := 1) d_MD_kindOfNine_122 r476 ⟨by decide, by decide⟩ (by decide) ?_
          refine P_aload_n d_MD_kindOfNine_123 rfl ?_
          refine P_getf (i := 25) d_MD_kindOfNine_124 ok_Model (by decide) L_MD_41 em rfl ?_
          refine P_iconst (v := 1) d_MD_kindOfNine_127 (by decide) ?_
          refine P_lald (j := 1) d_MD_kindOfNine_128 r476 ⟨by decide, by decide⟩ (by decide) ?_
          refine P_lmul d_MD_kindOfNine_129 ?_
          refine P_aload_n d_MD_kindOfNine_130 rfl ?_
          refine P_getf (i := 25) d_MD_kindOfNine_131 ok_Model (by decide) L_MD_41 em rfl ?_
          refine P_iconst (v := 4) d_MD_kindOfNine_134 (by decide) ?_
          refine P_lald (j := 4) d_MD_kindOfNine_135 r476 ⟨by decide, by decide⟩ (by decide) ?_
          refine P_aload_n d_MD_kindOfNine_136 rfl ?_
          refine P_getf (i := 25) d_MD_kindOfNine_137 ok_Model (by decide) L_MD_41 em rfl ?_
          refine P_iconst (v := 4) d_MD_kindOfNine_140 (by decide) ?_
          refine P_lald (j := 4) d_MD_kindOfNine_141 r476 ⟨by decide, by decide⟩ (by decide) ?_
          refine P_lmul d_MD_kindOfNine_142 ?_
          refine P_ladd d_MD_kindOfNine_143 ?_
          refine P_lstore d_MD_kindOfNine_144 (by decide) rfl ?_
          refine P_lload_n d_MD_kindOfNine_146 rfl ?_
          refine P_lload d_MD_kindOfNine_147 rfl ?_
          refine P_lcmp d_MD_kindOfNine_149 ?_
          refine P_if_ne 189 d_MD_kindOfNine_150 (by decide) (fun c6 => ?_) (fun c6 => ?_)
          · refine P_iconst (v := 0) d_MD_kindOfNine_189 (by decide) ?_
            refine P_istore d_MD_kindOfNine_190 (by decide) rfl ?_
            refine P_iload d_MD_kindOfNine_192 rfl ?_
            refine P_if_ne 201 d_MD_kindOfNine_194 (by decide) (fun h => absurd (by decide) h) (fun _ => ?_)
            refine P_iconst (v := 4) d_MD_kindOfNine_197 (by decide) ?_
            refine P_goto 214 d_MD_kindOfNine_198 (by decide) ?_
            exact P_iret d_MD_kindOfNine_214 rfl (le_b rfl) (le_b rfl) ⟨⟨_, rfl⟩, rfl⟩
          · refine P_aload_n d_MD_kindOfNine_153 rfl ?_
            refine P_getf (i := 25) d_MD_kindOfNine_154 ok_Model (by decide) L_MD_41 em rfl ?_
            refine P_iconst (v := 0) d_MD_kindOfNine_157 (by decide) ?_
            refine P_lald (j := 0) d_MD_kindOfNine_158 r476 ⟨by decide, by decide⟩ (by decide) ?_
            refine P_aload_n d_MD_kindOfNine_159 rfl ?_
            refine P_getf (i := 25) d_MD_kindOfNine_160 ok_Model (by decide) L_MD_41 em rfl ?_
            refine P_iconst (v := 1) d_MD_kindOfNine_163 (by decide) ?_
            refine P_lald (j := 1) d_MD_kindOfNine_164 r476 ⟨by decide, by decide⟩ (by decide) ?_
            refine P_lmul d_MD_kindOfNine_165 ?_
            refine P_aload_n d_MD_kindOfNine_166 rfl ?_
            refine P_getf (i := 25) d_MD_kindOfNine_167 ok_Model (by decide) L_MD_41 em rfl ?_
            refine P_iconst (v := 3) d_MD_kindOfNine_170 (by decide) ?_
            refine P_lald (j := 3) d_MD_kindOfNine_171 r476 ⟨by decide, by decide⟩ (by decide) ?_
            refine P_aload_n d_MD_kindOfNine_172 rfl ?_
            refine P_getf (i := 25) d_MD_kindOfNine_173 ok_Model (by decide) L_MD_41 em rfl ?_
            refine P_iconst (v := 4) d_MD_kindOfNine_176 (by decide) ?_
            refine P_lald (j := 4) d_MD_kindOfNine_177 r476 ⟨by decide, by decide⟩ (by decide) ?_
            refine P_lmul d_MD_kindOfNine_178 ?_
            refine P_ladd d_MD_kindOfNine_179 ?_
            refine P_lconst (v := 0) d_MD_kindOfNine_180 (by decide) ?_
            refine P_lcmp d_MD_kindOfNine_181 ?_
            refine P_if_ne 189 d_MD_kindOfNine_182 (by decide) (fun c7 => ?_) (fun c7 => ?_)
            · refine P_iconst (v := 0) d_MD_kindOfNine_189 (by decide) ?_
              refine P_istore d_MD_kindOfNine_190 (by decide) rfl ?_
              refine P_iload d_MD_kindOfNine_192 rfl ?_
              refine P_if_ne 201 d_MD_kindOfNine_194 (by decide) (fun h => absurd (by decide) h) (fun _ => ?_)
              refine P_iconst (v := 4) d_MD_kindOfNine_197 (by decide) ?_
              refine P_goto 214 d_MD_kindOfNine_198 (by decide) ?_
              exact P_iret d_MD_kindOfNine_214 rfl (le_b rfl) (le_b rfl) ⟨⟨_, rfl⟩, rfl⟩
            · refine P_iconst (v := 1) d_MD_kindOfNine_185 (by decide) ?_
              refine P_goto 190 d_MD_kindOfNine_186 (by decide) ?_
              refine P_istore d_MD_kindOfNine_190 (by decide) rfl ?_
              refine P_iload d_MD_kindOfNine_192 rfl ?_
              refine P_if_ne 201 d_MD_kindOfNine_194 (by decide) (fun _ => ?_) (fun h => absurd h (by decide))
              refine P_lload_n d_MD_kindOfNine_201 rfl ?_
              refine P_lload_n d_MD_kindOfNine_202 rfl ?_
              refine P_lload_n d_MD_kindOfNine_203 rfl ?_
              refine P_lmul d_MD_kindOfNine_204 ?_
              refine P_lcmp d_MD_kindOfNine_205 ?_
              refine P_if_ne 213 d_MD_kindOfNine_206 (by decide) (fun c8 => ?_) (fun c8 => ?_)
              · refine P_iconst (v := 3) d_MD_kindOfNine_213 (by decide) ?_
                exact P_iret d_MD_kindOfNine_214 rfl (le_b rfl) (le_b rfl) ⟨⟨_, rfl⟩, rfl⟩
              · refine P_iconst (v := 2) d_MD_kindOfNine_209 (by decide) ?_
                refine P_goto 214 d_MD_kindOfNine_210 (by decide) ?_
                exact P_iret d_MD_kindOfNine_214 rfl (le_b rfl) (le_b rfl) ⟨⟨_, rfl⟩, rfl⟩
        · refine P_aload_n d_MD_kindOfNine_54 rfl ?_
          refine P_getf (i := 25) d_MD_kindOfNine_55 ok_Model (by decide) L_MD_41 em rfl ?_
          refine P_iconst (v := 3) d_MD_kindOfNine_58 (by decide) ?_
          refine P_lald (j := 3) d_MD_kindOfNine_59 r476 ⟨by decide, by decide⟩ (by decide) ?_
          refine P_lconst (v := 0) d_MD_kindOfNine_60 (by decide) ?_
          refine P_lcmp d_MD_kindOfNine_61 ?_
          refine P_if_ne 89 d_MD_kindOfNine_62 (by decide) (fun c9 => ?_) (fun c9 => ?_)
          · refine P_aload_n d_MD_kindOfNine_89 rfl ?_
            refine P_getf (i := 25) d_MD_kindOfNine_90 ok_Model (by decide) L_MD_41 em rfl ?_
            refine P_iconst (v := 0) d_MD_kindOfNine_93 (by decide) ?_
            refine P_lald (j := 0) d_MD_kindOfNine_94 r476 ⟨by decide, by decide⟩ (by decide) ?_
            refine P_aload_n d_MD_kindOfNine_95 rfl ?_
            refine P_getf (i := 25) d_MD_kindOfNine_96 ok_Model (by decide) L_MD_41 em rfl ?_
            refine P_iconst (v := 0) d_MD_kindOfNine_99 (by decide) ?_
            refine P_lald (j := 0) d_MD_kindOfNine_100 r476 ⟨by decide, by decide⟩ (by decide) ?_
            refine P_lmul d_MD_kindOfNine_101 ?_
            refine P_aload_n d_MD_kindOfNine_102 rfl ?_
            refine P_getf (i := 25) d_MD_kindOfNine_103 ok_Model (by decide) L_MD_41 em rfl ?_
            refine P_iconst (v := 3) d_MD_kindOfNine_106 (by decide) ?_
            refine P_lald (j := 3) d_MD_kindOfNine_107 r476 ⟨by decide, by decide⟩ (by decide) ?_
            refine P_aload_n d_MD_kindOfNine_108 rfl ?_
            refine P_getf (i := 25) d_MD_kindOfNine_109 ok_Model (by decide) L_MD_41 em rfl ?_
            refine P_iconst (v := 3) d_MD_kindOfNine_112 (by decide) ?_
            refine P_lald (j := 3) d_MD_kindOfNine_113 r476 ⟨by decide, by decide⟩ (by decide) ?_
            refine P_lmul d_MD_kindOfNine_114 ?_
            refine P_ladd d_MD_kindOfNine_115 ?_
            refine P_lstore_n d_MD_kindOfNine_116 (by decide) rfl ?_
            refine P_aload_n d_MD_kindOfNine_117 rfl ?_
            refine P_getf (i := 25) d_MD_kindOfNine_118 ok_Model (by decide) L_MD_41 em rfl ?_
            refine P_iconst (v := 1) d_MD_kindOfNine_121 (by decide) ?_
            refine P_lald (j := 1) d_MD_kindOfNine_122 r476 ⟨by decide, by decide⟩ (by decide) ?_
            refine P_aload_n d_MD_kindOfNine_123 rfl ?_
            refine P_getf (i := 25) d_MD_kindOfNine_124 ok_Model (by decide) L_MD_41 em rfl ?_
            refine P_iconst (v := 1) d_MD_kindOfNine_127 (by decide) ?_
            refine P_lald (j := 1) d_MD_kindOfNine_128 r476 ⟨by decide, by decide⟩ (by decide) ?_
            refine P_lmul d_MD_kindOfNine_129 ?_
            refine P_aload_n d_MD_kindOfNine_130 rfl ?_
            refine P_getf (i := 25) d_MD_kindOfNine_131 ok_Model (by decide) L_MD_41 em rfl ?_
            refine P_iconst (v := 4) d_MD_kindOfNine_134 (by decide) ?_
            refine P_lald (j := 4) d_MD_kindOfNine_135 r476 ⟨by decide, by decide⟩ (by decide) ?_
            refine P_aload_n d_MD_kindOfNine_136 rfl ?_
            refine P_getf (i := 25) d_MD_kindOfNine_137 ok_Model (by decide) L_MD_41 em rfl ?_
            refine P_iconst (v := 4) d_MD_kindOfNine_140 (by decide) ?_
            refine P_lald (j := 4) d_MD_kindOfNine_141 r476 ⟨by decide, by decide⟩ (by decide) ?_
            refine P_lmul d_MD_kindOfNine_142 ?_
            refine P_ladd d_MD_kindOfNine_143 ?_
            refine P_lstore d_MD_kindOfNine_144 (by decide) rfl ?_
            refine P_lload_n d_MD_kindOfNine_146 rfl ?_
            refine P_lload d_MD_kindOfNine_147 rfl ?_
            refine P_lcmp d_MD_kindOfNine_149 ?_
            refine P_if_ne 189 d_MD_kindOfNine_150 (by decide) (fun c10 => ?_) (fun c10 => ?_)
            · refine P_iconst (v := 0) d_MD_kindOfNine_189 (by decide) ?_
              refine P_istore d_MD_kindOfNine_190 (by decide) rfl ?_
              refine P_iload d_MD_kindOfNine_192 rfl ?_
              refine P_if_ne 201 d_MD_kindOfNine_194 (by decide) (fun h => absurd (by decide) h) (fun _ => ?_)
              refine P_iconst (v := 4) d_MD_kindOfNine_197 (by decide) ?_
              refine P_goto 214 d_MD_kindOfNine_198 (by decide) ?_
              exact P_iret d_MD_kindOfNine_214 rfl (le_b rfl) (le_b rfl) ⟨⟨_, rfl⟩, rfl⟩
            · refine P_aload_n d_MD_kindOfNine_153 rfl ?_
              refine P_getf (i := 25) d_MD_kindOfNine_154 ok_Model (by decide) L_MD_41 em rfl ?_
              refine P_iconst (v := 0) d_MD_kindOfNine_157 (by decide) ?_
              refine P_lald (j := 0) d_MD_kindOfNine_158 r476 ⟨by decide, by decide⟩ (by decide) ?_
              refine P_aload_n d_MD_kindOfNine_159 rfl ?_
              refine P_getf (i := 25) d_MD_kindOfNine_160 ok_Model (by decide) L_MD_41 em rfl ?_
              refine P_iconst (v := 1) d_MD_kindOfNine_163 (by decide) ?_
              refine P_lald (j := 1) d_MD_kindOfNine_164 r476 ⟨by decide, by decide⟩ (by decide) ?_
              refine P_lmul d_MD_kindOfNine_165 ?_
              refine P_aload_n d_MD_kindOfNine_166 rfl ?_
              refine P_getf (i := 25) d_MD_kindOfNine_167 ok_Model (by decide) L_MD_41 em rfl ?_
              refine P_iconst (v := 3) d_MD_kindOfNine_170 (by decide) ?_
              refine P_lald (j := 3) d_MD_kindOfNine_171 r476 ⟨by decide, by decide⟩ (by decide) ?_
              refine P_aload_n d_MD_kindOfNine_172 rfl ?_
              refine P_getf (i := 25) d_MD_kindOfNine_173 ok_Model (by decide) L_MD_41 em rfl ?_
              refine P_iconst (v := 4) d_MD_kindOfNine_176 (by decide) ?_
              refine P_lald (j := 4) d_MD_kindOfNine_177 r476 ⟨by decide, by decide⟩ (by decide) ?_
              refine P_lmul d_MD_kindOfNine_178 ?_
              refine P_ladd d_MD_kindOfNine_179 ?_
              refine P_lconst (v := 0) d_MD_kindOfNine_180 (by decide) ?_
              refine P_lcmp d_MD_kindOfNine_181 ?_
              refine P_if_ne 189 d_MD_kindOfNine_182 (by decide) (fun c11 => ?_) (fun c11 => ?_)
              · refine P_iconst (v := 0) d_MD_kindOfNine_189 (by decide) ?_
                refine P_istore d_MD_kindOfNine_190 (by decide) rfl ?_
                refine P_iload d_MD_kindOfNine_192 rfl ?_
                refine P_if_ne 201 d_MD_kindOfNine_194 (by decide) (fun h => absurd (by decide) h) (fun _ => ?_)
                refine P_iconst (v := 4) d_MD_kindOfNine_197 (by decide) ?_
                refine P_goto 214 d_MD_kindOfNine_198 (by decide) ?_
                exact P_iret d_MD_kindOfNine_214 rfl (le_b rfl) (le_b rfl) ⟨⟨_, rfl⟩, rfl⟩
              · refine P_iconst (v := 1) d_MD_kindOfNine_185 (by decide) ?_
                refine P_goto 190 d_MD_kindOfNine_186 (by decide) ?_
                refine P_istore d_MD_kindOfNine_190 (by decide) rfl ?_
                refine P_iload d_MD_kindOfNine_192 rfl ?_
                refine P_if_ne 201 d_MD_kindOfNine_194 (by decide) (fun _ => ?_) (fun h => absurd h (by decide))
                refine P_lload_n d_MD_kindOfNine_201 rfl ?_
                refine P_lload_n d_MD_kindOfNine_202 rfl ?_
                refine P_lload_n d_MD_kindOfNine_203 rfl ?_
                refine P_lmul d_MD_kindOfNine_204 ?_
                refine P_lcmp d_MD_kindOfNine_205 ?_
                refine P_if_ne 213 d_MD_kindOfNine_206 (by decide) (fun c12 => ?_) (fun c12 => ?_)
                · refine P_iconst (v := 3) d_MD_kindOfNine_213 (by decide) ?_
                  exact P_iret d_MD_kindOfNine_214 rfl (le_b rfl) (le_b rfl) ⟨⟨_, rfl⟩, rfl⟩
                · refine P_iconst (v := 2) d_MD_kindOfNine_209 (by decide) ?_
                  refine P_goto 214 d_MD_kindOfNine_210 (by decide) ?_
                  exact P_iret d_MD_kindOfNine_214 rfl (le_b rfl) (le_b rfl) ⟨⟨_, rfl⟩, rfl⟩
          · refine P_aload_n d_MD_kindOfNine_65 rfl ?_
            refine P_getf (i := 25) d_MD_kindOfNine_66 ok_Model (by decide) L_MD_41 em rfl ?_
            refine P_iconst (v := 0) d_MD_kindOfNine_69 (by decide) ?_
            refine P_lald (j := 0) d_MD_kindOfNine_70 r476 ⟨by decide, by decide⟩ (by decide) ?_
            refine P_lload_n d_MD_kindOfNine_71 rfl ?_
            refine P_lcmp d_MD_kindOfNine_72 ?_
            refine P_if_ne 89 d_MD_kindOfNine_73 (by decide) (fun c13 => ?_) (fun c13 => ?_)
            · refine P_aload_n d_MD_kindOfNine_89 rfl ?_
              refine P_getf (i := 25) d_MD_kindOfNine_90 ok_Model (by decide) L_MD_41 em rfl ?_
              refine P_iconst (v := 0) d_MD_kindOfNine_93 (by decide) ?_
              refine P_lald (j := 0) d_MD_kindOfNine_94 r476 ⟨by decide, by decide⟩ (by decide) ?_
              refine P_aload_n d_MD_kindOfNine_95 rfl ?_
              refine P_getf (i := 25) d_MD_kindOfNine_96 ok_Model (by decide) L_MD_41 em rfl ?_
              refine P_iconst (v := 0) d_MD_kindOfNine_99 (by decide) ?_
              refine P_lald (j := 0) d_MD_kindOfNine_100 r476 ⟨by decide, by decide⟩ (by decide) ?_
              refine P_lmul d_MD_kindOfNine_101 ?_
              refine P_aload_n d_MD_kindOfNine_102 rfl ?_
              refine P_getf (i := 25) d_MD_kindOfNine_103 ok_Model (by decide) L_MD_41 em rfl ?_
              refine P_iconst (v := 3) d_MD_kindOfNine_106 (by decide) ?_
              refine P_lald (j := 3) d_MD_kindOfNine_107 r476 ⟨by decide, by decide⟩ (by decide) ?_
              refine P_aload_n d_MD_kindOfNine_108 rfl ?_
              refine P_getf (i := 25) d_MD_kindOfNine_109 ok_Model (by decide) L_MD_41 em rfl ?_
              refine P_iconst (v := 3) d_MD_kindOfNine_112 (by decide) ?_
              refine P_lald (j := 3) d_MD_kindOfNine_113 r476 ⟨by decide, by decide⟩ (by decide) ?_
              refine P_lmul d_MD_kindOfNine_114 ?_
              refine P_ladd d_MD_kindOfNine_115 ?_
              refine P_lstore_n d_MD_kindOfNine_116 (by decide) rfl ?_
              refine P_aload_n d_MD_kindOfNine_117 rfl ?_
              refine P_getf (i := 25) d_MD_kindOfNine_118 ok_Model (by decide) L_MD_41 em rfl ?_
              refine P_iconst (v := 1) d_MD_kindOfNine_121 (by decide) ?_
              refine P_lald (j := 1) d_MD_kindOfNine_122 r476 ⟨by decide, by decide⟩ (by decide) ?_
              refine P_aload_n d_MD_kindOfNine_123 rfl ?_
              refine P_getf (i := 25) d_MD_kindOfNine_124 ok_Model (by decide) L_MD_41 em rfl ?_
              refine P_iconst (v := 1) d_MD_kindOfNine_127 (by decide) ?_
              refine P_lald (j := 1) d_MD_kindOfNine_128 r476 ⟨by decide, by decide⟩ (by decide) ?_
              refine P_lmul d_MD_kindOfNine_129 ?_
              refine P_aload_n d_MD_kindOfNine_130 rfl ?_
              refine P_getf (i := 25) d_MD_kindOfNine_131 ok_Model (by decide) L_MD_41 em rfl ?_
              refine P_iconst (v := 4) d_MD_kindOfNine_134 (by decide) ?_
              refine P_lald (j := 4) d_MD_kindOfNine_135 r476 ⟨by decide, by decide⟩ (by decide) ?_
              refine P_aload_n d_MD_kindOfNine_136 rfl ?_
              refine P_getf (i := 25) d_MD_kindOfNine_137 ok_Model (by decide) L_MD_41 em rfl ?_
              refine P_iconst (v := 4) d_MD_kindOfNine_140 (by decide) ?_
              refine P_lald (j := 4) d_MD_kindOfNine_141 r476 ⟨by decide, by decide⟩ (by decide) ?_
              refine P_lmul d_MD_kindOfNine_142 ?_
              refine P_ladd d_MD_kindOfNine_143 ?_
              refine P_lstore d_MD_kindOfNine_144 (by decide) rfl ?_
              refine P_lload_n d_MD_kindOfNine_146 rfl ?_
              refine P_lload d_MD_kindOfNine_147 rfl ?_
              refine P_lcmp d_MD_kindOfNine_149 ?_
              refine P_if_ne 189 d_MD_kindOfNine_150 (by decide) (fun c14 => ?_) (fun c14 => ?_)
              · refine P_iconst (v := 0) d_MD_kindOfNine_189 (by decide) ?_
                refine P_istore d_MD_kindOfNine_190 (by decide) rfl ?_
                refine P_iload d_MD_kindOfNine_192 rfl ?_
                refine P_if_ne 201 d_MD_kindOfNine_194 (by decide) (fun h => absurd (by decide) h) (fun _ => ?_)
                refine P_iconst (v := 4) d_MD_kindOfNine_197 (by decide) ?_
                refine P_goto 214 d_MD_kindOfNine_198 (by decide) ?_
                exact P_iret d_MD_kindOfNine_214 rfl (le_b rfl) (le_b rfl) ⟨⟨_, rfl⟩, rfl⟩
              · refine P_aload_n d_MD_kindOfNine_153 rfl ?_
                refine P_getf (i := 25) d_MD_kindOfNine_154 ok_Model (by decide) L_MD_41 em rfl ?_
                refine P_iconst (v := 0) d_MD_kindOfNine_157 (by decide) ?_
                refine P_lald (j := 0) d_MD_kindOfNine_158 r476 ⟨by decide, by decide⟩ (by decide) ?_
                refine P_aload_n d_MD_kindOfNine_159 rfl ?_
                refine P_getf (i := 25) d_MD_kindOfNine_160 ok_Model (by decide) L_MD_41 em rfl ?_
                refine P_iconst (v := 1) d_MD_kindOfNine_163 (by decide) ?_
                refine P_lald (j := 1) d_MD_kindOfNine_164 r476 ⟨by decide, by decide⟩ (by decide) ?_
                refine P_lmul d_MD_kindOfNine_165 ?_
                refine P_aload_n d_MD_kindOfNine_166 rfl ?_
                refine P_getf (i := 25) d_MD_kindOfNine_167 ok_Model (by decide) L_MD_41 em rfl ?_
                refine P_iconst (v := 3) d_MD_kindOfNine_170 (by decide) ?_
                refine P_lald (j := 3) d_MD_kindOfNine_171 r476 ⟨by decide, by decide⟩ (by decide) ?_
                refine P_aload_n d_MD_kindOfNine_172 rfl ?_
                refine P_getf (i := 25) d_MD_kindOfNine_173 ok_Model (by decide) L_MD_41 em rfl ?_
                refine P_iconst (v := 4) d_MD_kindOfNine_176 (by decide) ?_
                refine P_lald (j := 4) d_MD_kindOfNine_177 r476 ⟨by decide, by decide⟩ (by decide) ?_
                refine P_lmul d_MD_kindOfNine_178 ?_
                refine P_ladd d_MD_kindOfNine_179 ?_
                refine P_lconst (v := 0) d_MD_kindOfNine_180 (by decide) ?_
                refine P_lcmp d_MD_kindOfNine_181 ?_
                refine P_if_ne 189 d_MD_kindOfNine_182 (by decide) (fun c15 => ?_) (fun c15 => ?_)
                · refine P_iconst (v := 0) d_MD_kindOfNine_189 (by decide) ?_
                  refine P_istore d_MD_kindOfNine_190 (by decide) rfl ?_
                  refine P_iload d_MD_kindOfNine_192 rfl ?_
                  refine P_if_ne 201 d_MD_kindOfNine_194 (by decide) (fun h => absurd (by decide) h) (fun _ => ?_)
                  refine P_iconst (v := 4) d_MD_kindOfNine_197 (by decide) ?_
                  refine P_goto 214 d_MD_kindOfNine_198 (by decide) ?_
                  exact P_iret d_MD_kindOfNine_214 rfl (le_b rfl) (le_b rfl) ⟨⟨_, rfl⟩, rfl⟩
                · refine P_iconst (v := 1) d_MD_kindOfNine_185 (by decide) ?_
                  refine P_goto 190 d_MD_kindOfNine_186 (by decide) ?_
                  refine P_istore d_MD_kindOfNine_190 (by decide) rfl ?_
                  refine P_iload d_MD_kindOfNine_192 rfl ?_
                  refine P_if_ne 201 d_MD_kindOfNine_194 (by decide) (fun _ => ?_) (fun h => absurd h (by decide))
                  refine P_lload_n d_MD_kindOfNine_201 rfl ?_
                  refine P_lload_n d_MD_kindOfNine_202 rfl ?_
                  refine P_lload_n d_MD_kindOfNine_203 rfl ?_
                  refine P_lmul d_MD_kindOfNine_204 ?_
                  refine P_lcmp d_MD_kindOfNine_205 ?_
                  refine P_if_ne 213 d_MD_kindOfNine_206 (by decide) (fun c16 => ?_) (fun c16 => ?_)
                  · refine P_iconst (v := 3) d_MD_kindOfNine_213 (by decide) ?_
                    exact P_iret d_MD_kindOfNine_214 rfl (le_b rfl) (le_b rfl) ⟨⟨_, rfl⟩, rfl⟩
                  · refine P_iconst (v := 2) d_MD_kindOfNine_209 (by decide) ?_
                    refine P_goto 214 d_MD_kindOfNine_210 (by decide) ?_
                    exact P_iret d_MD_kindOfNine_214 rfl (le_b rfl) (le_b rfl) ⟨⟨_, rfl⟩, rfl⟩
            · refine P_aload_n d_MD_kindOfNine_76 rfl ?_
              refine P_getf (i := 25) d_MD_kindOfNine_77 ok_Model (by decide) L_MD_41 em rfl ?_
              refine P_iconst (v := 4) d_MD_kindOfNine_80 (by decide) ?_
              refine P_lald (j := 4) d_MD_kindOfNine_81 r476 ⟨by decide, by decide⟩ (by decide) ?_
              refine P_lload_n d_MD_kindOfNine_82 rfl ?_
              refine P_lcmp d_MD_kindOfNine_83 ?_
              refine P_if_ne 89 d_MD_kindOfNine_84 (by decide) (fun c17 => ?_) (fun c17 => ?_)
              · refine P_aload_n d_MD_kindOfNine_89 rfl ?_
                refine P_getf (i := 25) d_MD_kindOfNine_90 ok_Model (by decide) L_MD_41 em rfl ?_
                refine P_iconst (v := 0) d_MD_kindOfNine_93 (by decide) ?_
                refine P_lald (j := 0) d_MD_kindOfNine_94 r476 ⟨by decide, by decide⟩ (by decide) ?_
                refine P_aload_n d_MD_kindOfNine_95 rfl ?_
                refine P_getf (i := 25) d_MD_kindOfNine_96 ok_Model (by decide) L_MD_41 em rfl ?_
                refine P_iconst (v := 0) d_MD_kindOfNine_99 (by decide) ?_
                refine P_lald (j := 0) d_MD_kindOfNine_100 r476 ⟨by decide, by decide⟩ (by decide) ?_
                refine P_lmul d_MD_kindOfNine_101 ?_
                refine P_aload_n d_MD_kindOfNine_102 rfl ?_
                refine P_getf (i := 25) d_MD_kindOfNine_103 ok_Model (by decide) L_MD_41 em rfl ?_
                refine P_iconst (v := 3) d_MD_kindOfNine_106 (by decide) ?_
                refine P_lald (j := 3) d_MD_kindOfNine_107 r476 ⟨by decide, by decide⟩ (by decide) ?_
                refine P_aload_n d_MD_kindOfNine_108 rfl ?_
                refine P_getf (i := 25) d_MD_kindOfNine_109 ok_Model (by decide) L_MD_41 em rfl ?_
                refine P_iconst (v := 3) d_MD_kindOfNine_112 (by decide) ?_
                refine P_lald (j := 3) d_MD_kindOfNine_113 r476 ⟨by decide, by decide⟩ (by decide) ?_
                refine P_lmul d_MD_kindOfNine_114 ?_
                refine P_ladd d_MD_kindOfNine_115 ?_
                refine P_lstore_n d_MD_kindOfNine_116 (by decide) rfl ?_
                refine P_aload_n d_MD_kindOfNine_117 rfl ?_
                refine P_getf (i := 25) d_MD_kindOfNine_118 ok_Model (by decide) L_MD_41 em rfl ?_
                refine P_iconst (v := 1) d_MD_kindOfNine_121 (by decide) ?_
                refine P_lald (j := 1) d_MD_kindOfNine_122 r476 ⟨by decide, by decide⟩ (by decide) ?_
                refine P_aload_n d_MD_kindOfNine_123 rfl ?_
                refine P_getf (i := 25) d_MD_kindOfNine_124 ok_Model (by decide) L_MD_41 em rfl ?_
                refine P_iconst (v := 1) d_MD_kindOfNine_127 (by decide) ?_
                refine P_lald (j := 1) d_MD_kindOfNine_128 r476 ⟨by decide, by decide⟩ (by decide) ?_
                refine P_lmul d_MD_kindOfNine_129 ?_
                refine P_aload_n d_MD_kindOfNine_130 rfl ?_
                refine P_getf (i := 25) d_MD_kindOfNine_131 ok_Model (by decide) L_MD_41 em rfl ?_
                refine P_iconst (v := 4) d_MD_kindOfNine_134 (by decide) ?_
                refine P_lald (j := 4) d_MD_kindOfNine_135 r476 ⟨by decide, by decide⟩ (by decide) ?_
                refine P_aload_n d_MD_kindOfNine_136 rfl ?_
                refine P_getf (i := 25) d_MD_kindOfNine_137 ok_Model (by decide) L_MD_41 em rfl ?_
                refine P_iconst (v := 4) d_MD_kindOfNine_140 (by decide) ?_
                refine P_lald (j := 4) d_MD_kindOfNine_141 r476 ⟨by decide, by decide⟩ (by decide) ?_
                refine P_lmul d_MD_kindOfNine_142 ?_
                refine P_ladd d_MD_kindOfNine_143 ?_
                refine P_lstore d_MD_kindOfNine_144 (by decide) rfl ?_
                refine P_lload_n d_MD_kindOfNine_146 rfl ?_
                refine P_lload d_MD_kindOfNine_147 rfl ?_
                refine P_lcmp d_MD_kindOfNine_149 ?_
                refine P_if_ne 189 d_MD_kindOfNine_150 (by decide) (fun c18 => ?_) (fun c18 => ?_)
                · refine P_iconst (v := 0) d_MD_kindOfNine_189 (by decide) ?_
                  refine P_istore d_MD_kindOfNine_190 (by decide) rfl ?_
                  refine P_iload d_MD_kindOfNine_192 rfl ?_
                  refine P_if_ne 201 d_MD_kindOfNine_194 (by decide) (fun h => absurd (by decide) h) (fun _ => ?_)
                  refine P_iconst (v := 4) d_MD_kindOfNine_197 (by decide) ?_
                  refine P_goto 214 d_MD_kindOfNine_198 (by decide) ?_
                  exact P_iret d_MD_kindOfNine_214 rfl (le_b rfl) (le_b rfl) ⟨⟨_, rfl⟩, rfl⟩
                · refine P_aload_n d_MD_kindOfNine_153 rfl ?_
                  refine P_getf (i := 25) d_MD_kindOfNine_154 ok_Model (by decide) L_MD_41 em rfl ?_
                  refine P_iconst (v := 0) d_MD_kindOfNine_157 (by decide) ?_
                  refine P_lald (j := 0) d_MD_kindOfNine_158 r476 ⟨by decide, by decide⟩ (by decide) ?_
                  refine P_aload_n d_MD_kindOfNine_159 rfl ?_
                  refine P_getf (i := 25) d_MD_kindOfNine_160 ok_Model (by decide) L_MD_41 em rfl ?_
                  refine P_iconst (v := 1) d_MD_kindOfNine_163 (by decide) ?_
                  refine P_lald (j := 1) d_MD_kindOfNine_164 r476 ⟨by decide, by decide⟩ (by decide) ?_
                  refine P_lmul d_MD_kindOfNine_165 ?_
                  refine P_aload_n d_MD_kindOfNine_166 rfl ?_
                  refine P_getf (i := 25) d_MD_kindOfNine_167 ok_Model (by decide) L_MD_41 em rfl ?_
                  refine P_iconst (v := 3) d_MD_kindOfNine_170 (by decide) ?_
                  refine P_lald (j := 3) d_MD_kindOfNine_171 r476 ⟨by decide, by decide⟩ (by decide) ?_
                  refine P_aload_n d_MD_kindOfNine_172 rfl ?_
                  refine P_getf (i := 25) d_MD_kindOfNine_173 ok_Model (by decide) L_MD_41 em rfl ?_
                  refine P_iconst (v := 4) d_MD_kindOfNine_176 (by decide) ?_
                  refine P_lald (j := 4) d_MD_kindOfNine_177 r476 ⟨by decide, by decide⟩ (by decide) ?_
                  refine P_lmul d_MD_kindOfNine_178 ?_
                  refine P_ladd d_MD_kindOfNine_179 ?_
                  refine P_lconst (v := 0) d_MD_kindOfNine_180 (by decide) ?_
                  refine P_lcmp d_MD_kindOfNine_181 ?_
                  refine P_if_ne 189 d_MD_kindOfNine_182 (by decide) (fun c19 => ?_) (fun c19 => ?_)
                  · refine P_iconst (v := 0) d_MD_kindOfNine_189 (by decide) ?_
                    refine P_istore d_MD_kindOfNine_190 (by decide) rfl ?_
                    refine P_iload d_MD_kindOfNine_192 rfl ?_
                    refine P_if_ne 201 d_MD_kindOfNine_194 (by decide) (fun h => absurd (by decide) h) (fun _ => ?_)
                    refine P_iconst (v := 4) d_MD_kindOfNine_197 (by decide) ?_
                    refine P_goto 214 d_MD_kindOfNine_198 (by decide) ?_
                    exact P_iret d_MD_kindOfNine_214 rfl (le_b rfl) (le_b rfl) ⟨⟨_, rfl⟩, rfl⟩
                  · refine P_iconst (v := 1) d_MD_kindOfNine_185 (by decide) ?_
                    refine P_goto 190 d_MD_kindOfNine_186 (by decide) ?_
                    refine P_istore d_MD_kindOfNine_190 (by decide) rfl ?_
                    refine P_iload d_MD_kindOfNine_192 rfl ?_
                    refine P_if_ne 201 d_MD_kindOfNine_194 (by decide) (fun _ => ?_) (fun h => absurd h (by decide))
                    refine P_lload_n d_MD_kindOfNine_201 rfl ?_
                    refine P_lload_n d_MD_kindOfNine_202 rfl ?_
                    refine P_lload_n d_MD_kindOfNine_203 rfl ?_
                    refine P_lmul d_MD_kindOfNine_204 ?_
                    refine P_lcmp d_MD_kindOfNine_205 ?_
                    refine P_if_ne 213 d_MD_kindOfNine_206 (by decide) (fun c20 => ?_) (fun c20 => ?_)
                    · refine P_iconst (v := 3) d_MD_kindOfNine_213 (by decide) ?_
                      exact P_iret d_MD_kindOfNine_214 rfl (le_b rfl) (le_b rfl) ⟨⟨_, rfl⟩, rfl⟩
                    · refine P_iconst (v := 2) d_MD_kindOfNine_209 (by decide) ?_
                      refine P_goto 214 d_MD_kindOfNine_210 (by decide) ?_
                      exact P_iret d_MD_kindOfNine_214 rfl (le_b rfl) (le_b rfl) ⟨⟨_, rfl⟩, rfl⟩
              · refine P_iconst (v := 1) d_MD_kindOfNine_87 (by decide) ?_
                exact P_iret d_MD_kindOfNine_88 rfl (le_b rfl) (le_b rfl) ⟨⟨_, rfl⟩, rfl⟩
      · refine P_iconst (v := 5) d_MD_kindOfNine_33 (by decide) ?_
        exact P_iret d_MD_kindOfNine_34 rfl (le_b rfl) (le_b rfl) ⟨⟨_, rfl⟩, rfl⟩
  · refine P_iconst (v := 0) d_MD_kindOfNine_7 (by decide) ?_
    exact P_iret d_MD_kindOfNine_8 rfl (le_b rfl) (le_b rfl) ⟨⟨_, rfl⟩, rfl⟩
theorem s_MD_isOn {G : pG} {w : pW} {l : Nat} {fl : Nat → Int64} (hl : w.2 l = .inl (1, 3, .inr (.inl fl))) (p : Nat) (hp : p < 8) {tp qs un : Nat} {nq ln nl sz at_ pl so vl wo fa fp lf lp th rm um sm : Int32} (em : w.2 467 = mO (nI tp) (nI qs) nq (nI un) ln nl sz at_ pl so vl wo fa fp lf lp th rm um sm) (htp : tp ≤ 900) (hqs : qs ≤ 8) (hun : un ≤ 16) {fn : Nat → Int64} (r471 : w.2 471 = .inl (1, 170, .inr (.inl fn))) {nm np : Nat} (hnm : nm ≤ 16) (e8 : fn 168 = lN nm) (hnp : np ≤ 8) (e9 : fn 169 = lN np) : PM G M_MD_isOn 1 0 0 [.ref 467, .ref l, .int (nI p)] w (fun r w' => (∃ v, r = some (.int (bi v))) ∧ w' = w) := by
  refine PM_of pn_MD_isOn (le_b rfl) ?_
  show PW _ _ _ _ _ _ (0, [(0, .ref 467), (1, .ref l), (2, .int (nI p))], [], w)
  refine P_aload_n d_MD_isOn_0 rfl ?_
  refine P_iconst (v := 0) d_MD_isOn_1 (by decide) ?_
  refine P_lald (j := 0) d_MD_isOn_2 hl ⟨by decide, by decide⟩ (by decide) ?_
  refine P_aload_n d_MD_isOn_3 rfl ?_
  refine P_iload_n d_MD_isOn_4 rfl ?_
  refine P_iconst (v := 0) d_MD_isOn_5 (by decide) ?_
  refine P_callV (M := M_MD_isOn) (pc := 6) (as := [.int (nI p), .int 0]) (b := 467) d_MD_isOn_6 co_MD_pointOf ok_Model em L_MD_250 im_MD_pointOf se_MD_pointOf (s_MD_pointOf p (by omega) 0 (by decide) em htp hqs hun r471 hnm e8 hnp e9) rfl ⟨by decide, by decide⟩ ⟨by decide, by decide⟩ (by exact le_b rfl) ?_ _ rfl
  rintro _ u ⟨⟨v1, rfl⟩, eu⟩
  subst u
  show PW _ _ _ _ _ _ (9, [(0, .ref 467), (1, .ref l), (2, .int (nI p))], [.long v1, .long (fl 0)], w)
  refine P_lmul d_MD_isOn_9 ?_
  refine P_aload_n d_MD_isOn_10 rfl ?_
  refine P_iconst (v := 1) d_MD_isOn_11 (by decide) ?_
  refine P_lald (j := 1) d_MD_isOn_12 hl ⟨by decide, by decide⟩ (by decide) ?_
  refine P_aload_n d_MD_isOn_13 rfl ?_
  refine P_iload_n d_MD_isOn_14 rfl ?_
  refine P_iconst (v := 1) d_MD_isOn_15 (by decide) ?_
  refine P_callV (M := M_MD_isOn) (pc := 16) (as := [.int (nI p), .int 1]) (b := 467) d_MD_isOn_16 co_MD_pointOf ok_Model em L_MD_250 im_MD_pointOf se_MD_pointOf (s_MD_pointOf p (by omega) 1 (by decide) em htp hqs hun r471 hnm e8 hnp e9) rfl ⟨by decide, by decide⟩ ⟨by decide, by decide⟩ (by exact le_b rfl) ?_ _ rfl
  rintro _ u ⟨⟨v2, rfl⟩, eu⟩
  subst u
  show PW _ _ _ _ _ _ (19, [(0, .ref 467), (1, .ref l), (2, .int (nI p))], [.long v2, .long (fl 1), .long ((fl 0) * v1)], w)
  refine P_lmul d_MD_isOn_19 ?_
  refine P_ladd d_MD_isOn_20 ?_
  refine P_aload_n d_MD_isOn_21 rfl ?_
  refine P_iconst (v := 2) d_MD_isOn_22 (by decide) ?_
  refine P_lald (j := 2) d_MD_isOn_23 hl ⟨by decide, by decide⟩ (by decide) ?_
  refine P_aload_n d_MD_isOn_24 rfl ?_
  refine P_iload_n d_MD_isOn_25 rfl ?_
  refine P_iconst (v := 2) d_MD_isOn_26 (by decide) ?_
  refine P_callV (M := M_MD_isOn) (pc := 27) (as := [.int (nI p), .int 2]) (b := 467) d_MD_isOn_27 co_MD_pointOf ok_Model em L_MD_250 im_MD_pointOf se_MD_pointOf (s_MD_pointOf p (by omega) 2 (by decide) em htp hqs hun r471 hnm e8 hnp e9) rfl ⟨by decide, by decide⟩ ⟨by decide, by decide⟩ (by exact le_b rfl) ?_ _ rfl
  rintro _ u ⟨⟨v3, rfl⟩, eu⟩
  subst u
  show PW _ _ _ _ _ _ (30, [(0, .ref 467), (1, .ref l), (2, .int (nI p))], [.long v3, .long (fl 2), .long (((fl 0) * v1) + ((fl 1) * v2))], w)
  refine P_lmul d_MD_isOn_30 ?_
  refine P_ladd d_MD_isOn_31 ?_
  refine P_lconst (v := 0) d_MD_isOn_32 (by decide) ?_
  refine P_lcmp d_MD_isOn_33 ?_
  refine P_if_ne 41 d_MD_isOn_34 (by decide) (fun c4 => ?_) (fun c4 => ?_)
  · refine P_iconst (v := 0) d_MD_isOn_41 (by decide) ?_
    exact P_zret d_MD_isOn_42 rfl rfl (le_b rfl) (le_b rfl) ⟨⟨false, rfl⟩, rfl⟩
  · refine P_iconst (v := 1) d_MD_isOn_37 (by decide) ?_
    refine P_goto 42 d_MD_isOn_38 (by decide) ?_
    exact P_zret d_MD_isOn_42 rfl rfl (le_b rfl) (le_b rfl) ⟨⟨true, rfl⟩, rfl⟩
theorem s_MD_hasEdges {G : pG} {w : pW} {tp qs un : Nat} {nq ln nl sz at_ pl so vl wo fa fp lf lp th rm um sm : Int32} (em : w.2 467 = mO (nI tp) (nI qs) nq (nI un) ln nl sz at_ pl so vl wo fa fp lf lp th rm um sm) (htp : tp ≤ 900) (hqs : qs ≤ 8) (hun : un ≤ 16) {f479 : Nat → Int64} (r479 : w.2 479 = .inl (1, 3, .inr (.inl f479))) : PM G M_MD_hasEdges 1 0 0 [.ref 467] w (fun r w' => (∃ v, r = some (.int (bi v))) ∧ w' = w) := by
  refine PM_of pn_MD_hasEdges (le_b rfl) ?_
  show PW _ _ _ _ _ _ (0, [(0, .ref 467)], [], w)
  refine P_aload_n d_MD_hasEdges_0 rfl ?_
  refine P_getf (i := 28) d_MD_hasEdges_1 ok_Model (by decide) L_MD_50 em rfl ?_
  refine P_iconst (v := 0) d_MD_hasEdges_4 (by decide) ?_
  refine P_lald (j := 0) d_MD_hasEdges_5 r479 ⟨by decide, by decide⟩ (by decide) ?_
  refine P_mabslZ d_MD_hasEdges_6 L_MD_210 st_abs in_Math cd_abs ⟨by decide, by decide, by decide, by decide⟩ (by exact le_b rfl) (fun zz1 => ?_)
  show PW _ _ _ _ _ _ (9, [(0, .ref 467)], [.long zz1], w)
  refine P_ldc2 (v := 9999) d_MD_hasEdges_9 L_MD_301 ?_
  refine P_lcmp d_MD_hasEdges_12 ?_
  refine P_if_gt 52 d_MD_hasEdges_13 (by decide) (fun c2 => ?_) (fun c2 => ?_)
  · refine P_iconst (v := 0) d_MD_hasEdges_52 (by decide) ?_
    exact P_zret d_MD_hasEdges_53 rfl rfl (le_b rfl) (le_b rfl) ⟨⟨false, rfl⟩, rfl⟩
  · refine P_aload_n d_MD_hasEdges_16 rfl ?_
    refine P_getf (i := 28) d_MD_hasEdges_17 ok_Model (by decide) L_MD_50 em rfl ?_
    refine P_iconst (v := 1) d_MD_hasEdges_20 (by decide) ?_
    refine P_lald (j := 1) d_MD_hasEdges_21 r479 ⟨by decide, by decide⟩ (by decide) ?_
    refine P_mabslZ d_MD_hasEdges_22 L_MD_210 st_abs in_Math cd_abs ⟨by decide, by decide, by decide, by decide⟩ (by exact le_b rfl) (fun zz3 => ?_)
    show PW _ _ _ _ _ _ (25, [(0, .ref 467)], [.long zz3], w)
    refine P_ldc2 (v := 9999) d_MD_hasEdges_25 L_MD_301 ?_
    refine P_lcmp d_MD_hasEdges_28 ?_
    refine P_if_gt 52 d_MD_hasEdges_29 (by decide) (fun c4 => ?_) (fun c4 => ?_)
    · refine P_iconst (v := 0) d_MD_hasEdges_52 (by decide) ?_
      exact P_zret d_MD_hasEdges_53 rfl rfl (le_b rfl) (le_b rfl) ⟨⟨false, rfl⟩, rfl⟩
    · refine P_aload_n d_MD_hasEdges_32 rfl ?_
      refine P_getf (i := 28) d_MD_hasEdges_33 ok_Model (by decide) L_MD_50 em rfl ?_
      refine P_iconst (v := 2) d_MD_hasEdges_36 (by decide) ?_
      refine P_lald (j := 2) d_MD_hasEdges_37 r479 ⟨by decide, by decide⟩ (by decide) ?_
      refine P_mabslZ d_MD_hasEdges_38 L_MD_210 st_abs in_Math cd_abs ⟨by decide, by decide, by decide, by decide⟩ (by exact le_b rfl) (fun zz5 => ?_)
      show PW _ _ _ _ _ _ (41, [(0, .ref 467)], [.long zz5], w)
      refine P_ldc2 (v := 9999) d_MD_hasEdges_41 L_MD_301 ?_
      refine P_lcmp d_MD_hasEdges_44 ?_
      refine P_if_gt 52 d_MD_hasEdges_45 (by decide) (fun c6 => ?_) (fun c6 => ?_)
      · refine P_iconst (v := 0) d_MD_hasEdges_52 (by decide) ?_
        exact P_zret d_MD_hasEdges_53 rfl rfl (le_b rfl) (le_b rfl) ⟨⟨false, rfl⟩, rfl⟩
      · refine P_iconst (v := 1) d_MD_hasEdges_48 (by decide) ?_
        refine P_goto 53 d_MD_hasEdges_49 (by decide) ?_
        exact P_zret d_MD_hasEdges_53 rfl rfl (le_b rfl) (le_b rfl) ⟨⟨true, rfl⟩, rfl⟩
theorem s_MD_isAt {G : pG} {w : pW} (p : Nat) (hp : p < 8) {tp qs un : Nat} {nq ln nl sz at_ pl so vl wo fa fp lf lp th rm um sm : Int32} (em : w.2 467 = mO (nI tp) (nI qs) nq (nI un) ln nl sz at_ pl so vl wo fa fp lf lp th rm um sm) (htp : tp ≤ 900) (hqs : qs ≤ 8) (hun : un ≤ 16) {fn : Nat → Int64} (r471 : w.2 471 = .inl (1, 170, .inr (.inl fn))) {nm np : Nat} (hnm : nm ≤ 16) (e8 : fn 168 = lN nm) (hnp : np ≤ 8) (e9 : fn 169 = lN np) {f479 : Nat → Int64} (r479 : w.2 479 = .inl (1, 3, .inr (.inl f479))) : PM G M_MD_isAt 1 0 0 [.ref 467, .int (nI p)] w (fun r w' => (∃ v, r = some (.int (bi v))) ∧ w' = w) := by
  refine PM_of pn_MD_isAt (le_b rfl) ?_
  show PW _ _ _ _ _ _ (0, [(0, .ref 467), (1, .int (nI p))], [], w)
  refine P_aload_n d_MD_isAt_0 rfl ?_
  refine P_getf (i := 28) d_MD_isAt_1 ok_Model (by decide) L_MD_50 em rfl ?_
  refine P_iconst (v := 0) d_MD_isAt_4 (by decide) ?_
  refine P_lald (j := 0) d_MD_isAt_5 r479 ⟨by decide, by decide⟩ (by decide) ?_
  refine P_aload_n d_MD_isAt_6 rfl ?_
  refine P_iload_n d_MD_isAt_7 rfl ?_
  refine P_iconst (v := 0) d_MD_isAt_8 (by decide) ?_
  refine P_callV (M := M_MD_isAt) (pc := 9) (as := [.int (nI p), .int 0]) (b := 467) d_MD_isAt_9 co_MD_pointOf ok_Model em L_MD_250 im_MD_pointOf se_MD_pointOf (s_MD_pointOf p (by omega) 0 (by decide) em htp hqs hun r471 hnm e8 hnp e9) rfl ⟨by decide, by decide⟩ ⟨by decide, by decide⟩ (by exact le_b rfl) ?_ _ rfl
  rintro _ u ⟨⟨v1, rfl⟩, eu⟩
  subst u
  show PW _ _ _ _ _ _ (12, [(0, .ref 467), (1, .int (nI p))], [.long v1, .long (f479 0)], w)
  refine P_lcmp d_MD_isAt_12 ?_
  refine P_if_ne 52 d_MD_isAt_13 (by decide) (fun c2 => ?_) (fun c2 => ?_)
  · refine P_iconst (v := 0) d_MD_isAt_52 (by decide) ?_
    exact P_zret d_MD_isAt_53 rfl rfl (le_b rfl) (le_b rfl) ⟨⟨false, rfl⟩, rfl⟩
  · refine P_aload_n d_MD_isAt_16 rfl ?_
    refine P_getf (i := 28) d_MD_isAt_17 ok_Model (by decide) L_MD_50 em rfl ?_
    refine P_iconst (v := 1) d_MD_isAt_20 (by decide) ?_
    refine P_lald (j := 1) d_MD_isAt_21 r479 ⟨by decide, by decide⟩ (by decide) ?_
    refine P_aload_n d_MD_isAt_22 rfl ?_
    refine P_iload_n d_MD_isAt_23 rfl ?_
    refine P_iconst (v := 1) d_MD_isAt_24 (by decide) ?_
    refine P_callV (M := M_MD_isAt) (pc := 25) (as := [.int (nI p), .int 1]) (b := 467) d_MD_isAt_25 co_MD_pointOf ok_Model em L_MD_250 im_MD_pointOf se_MD_pointOf (s_MD_pointOf p (by omega) 1 (by decide) em htp hqs hun r471 hnm e8 hnp e9) rfl ⟨by decide, by decide⟩ ⟨by decide, by decide⟩ (by exact le_b rfl) ?_ _ rfl
    rintro _ u ⟨⟨v3, rfl⟩, eu⟩
    subst u
    show PW _ _ _ _ _ _ (28, [(0, .ref 467), (1, .int (nI p))], [.long v3, .long (f479 1)], w)
    refine P_lcmp d_MD_isAt_28 ?_
    refine P_if_ne 52 d_MD_isAt_29 (by decide) (fun c4 => ?_) (fun c4 => ?_)
    · refine P_iconst (v := 0) d_MD_isAt_52 (by decide) ?_
      exact P_zret d_MD_isAt_53 rfl rfl (le_b rfl) (le_b rfl) ⟨⟨false, rfl⟩, rfl⟩
    · refine P_aload_n d_MD_isAt_32 rfl ?_
      refine P_getf (i := 28) d_MD_isAt_33 ok_Model (by decide) L_MD_50 em rfl ?_
      refine P_iconst (v := 2) d_MD_isAt_36 (by decide) ?_
      refine P_lald (j := 2) d_MD_isAt_37 r479 ⟨by decide, by decide⟩ (by decide) ?_
      refine P_aload_n d_MD_isAt_38 rfl ?_
      refine P_iload_n d_MD_isAt_39 rfl ?_
      refine P_iconst (v := 2) d_MD_isAt_40 (by decide) ?_
      refine P_callV (M := M_MD_isAt) (pc := 41) (as := [.int (nI p), .int 2]) (b := 467) d_MD_isAt_41 co_MD_pointOf ok_Model em L_MD_250 im_MD_pointOf se_MD_pointOf (s_MD_pointOf p (by omega) 2 (by decide) em htp hqs hun r471 hnm e8 hnp e9) rfl ⟨by decide, by decide⟩ ⟨by decide, by decide⟩ (by exact le_b rfl) ?_ _ rfl
      rintro _ u ⟨⟨v5, rfl⟩, eu⟩
      subst u
      show PW _ _ _ _ _ _ (44, [(0, .ref 467), (1, .int (nI p))], [.long v5, .long (f479 2)], w)
      refine P_lcmp d_MD_isAt_44 ?_
      refine P_if_ne 52 d_MD_isAt_45 (by decide) (fun c6 => ?_) (fun c6 => ?_)
      · refine P_iconst (v := 0) d_MD_isAt_52 (by decide) ?_
        exact P_zret d_MD_isAt_53 rfl rfl (le_b rfl) (le_b rfl) ⟨⟨false, rfl⟩, rfl⟩
      · refine P_iconst (v := 1) d_MD_isAt_48 (by decide) ?_
        refine P_goto 53 d_MD_isAt_49 (by decide) ?_
        exact P_zret d_MD_isAt_53 rfl rfl (le_b rfl) (le_b rfl) ⟨⟨true, rfl⟩, rfl⟩
theorem s_MD_sideOfSide {G : pG} {w : pW} (q : Nat) (hq : q < 8) (k : Nat) (hk : k < 4) (x : Int64) (y : Int64) (z : Int64) {tp qs un : Nat} {nq ln nl sz at_ pl so vl wo fa fp lf lp th rm um sm : Int32} (em : w.2 467 = mO (nI tp) (nI qs) nq (nI un) ln nl sz at_ pl so vl wo fa fp lf lp th rm um sm) (htp : tp ≤ 900) (hqs : qs ≤ 8) (hun : un ≤ 16) {f469 : Nat → Int32} (r469 : w.2 469 = .inl (0, 64, .inl f469)) : PM G M_MD_sideOfSide 1 0 0 [.ref 467, .int (nI q), .int (nI k), .long x, .long y, .long z] w (fun r w' => (∃ v, r = some (.int v)) ∧ w' = w) := by
  refine PM_of pn_MD_sideOfSide (le_b rfl) ?_
  show PW _ _ _ _ _ _ (0, [(0, .ref 467), (1, .int (nI q)), (2, .int (nI k)), (3, .long x), (5, .long y), (7, .long z)], [], w)
  refine P_bipush (v := 8) d_MD_sideOfSide_0 (by decide) ?_
  refine P_iload_n d_MD_sideOfSide_2 rfl ?_
  refine P_imulN (a := 8) (b := q) d_MD_sideOfSide_3 ?_
  show PW _ _ _ _ _ _ (4, [(0, .ref 467), (1, .int (nI q)), (2, .int (nI k)), (3, .long x), (5, .long y), (7, .long z)], [.int (nI (8 * q))], w)
  refine P_iconst (v := 2) d_MD_sideOfSide_4 (by decide) ?_
  refine P_iload_n d_MD_sideOfSide_5 rfl ?_
  refine P_imulN (a := 2) (b := k) d_MD_sideOfSide_6 ?_
  show PW _ _ _ _ _ _ (7, [(0, .ref 467), (1, .int (nI q)), (2, .int (nI k)), (3, .long x), (5, .long y), (7, .long z)], [.int (nI (2 * k)), .int (nI (8 * q))], w)
  refine P_iaddN (a := (8 * q)) (b := (2 * k)) d_MD_sideOfSide_7 ?_
  show PW _ _ _ _ _ _ (8, [(0, .ref 467), (1, .int (nI q)), (2, .int (nI k)), (3, .long x), (5, .long y), (7, .long z)], [.int (nI ((8 * q) + (2 * k)))], w)
  refine P_istore d_MD_sideOfSide_8 (by decide) rfl ?_
  refine P_bipush (v := 8) d_MD_sideOfSide_10 (by decide) ?_
  refine P_iload_n d_MD_sideOfSide_12 rfl ?_
  refine P_imulN (a := 8) (b := q) d_MD_sideOfSide_13 ?_
  show PW _ _ _ _ _ _ (14, [(0, .ref 467), (1, .int (nI q)), (2, .int (nI k)), (3, .long x), (5, .long y), (7, .long z), (9, .int (nI ((8 * q) + (2 * k))))], [.int (nI (8 * q))], w)
  refine P_iconst (v := 2) d_MD_sideOfSide_14 (by decide) ?_
  refine P_iload_n d_MD_sideOfSide_15 rfl ?_
  refine P_iconst (v := 1) d_MD_sideOfSide_16 (by decide) ?_
  refine P_iaddN (a := k) (b := 1) d_MD_sideOfSide_17 ?_
  show PW _ _ _ _ _ _ (18, [(0, .ref 467), (1, .int (nI q)), (2, .int (nI k)), (3, .long x), (5, .long y), (7, .long z), (9, .int (nI ((8 * q) + (2 * k))))], [.int (nI (k + 1)), .int 2, .int (nI (8 * q))], w)
  refine P_iconst (v := 4) d_MD_sideOfSide_18 (by decide) ?_
  refine P_iremN (a := (k + 1)) (b := 4) d_MD_sideOfSide_19 (by omega) (by omega) (by omega) ?_
  show PW _ _ _ _ _ _ (20, [(0, .ref 467), (1, .int (nI q)), (2, .int (nI k)), (3, .long x), (5, .long y), (7, .long z), (9, .int (nI ((8 * q) + (2 * k))))], [.int (nI ((k + 1) % 4)), .int 2, .int (nI (8 * q))], w)
  refine P_imulN (a := 2) (b := ((k + 1) % 4)) d_MD_sideOfSide_20 ?_
  show PW _ _ _ _ _ _ (21, [(0, .ref 467), (1, .int (nI q)), (2, .int (nI k)), (3, .long x), (5, .long y), (7, .long z), (9, .int (nI ((8 * q) + (2 * k))))], [.int (nI (2 * ((k + 1) % 4))), .int (nI (8 * q))], w)
  refine P_iaddN (a := (8 * q)) (b := (2 * ((k + 1) % 4))) d_MD_sideOfSide_21 ?_
  show PW _ _ _ _ _ _ (22, [(0, .ref 467), (1, .int (nI q)), (2, .int (nI k)), (3, .long x), (5, .long y), (7, .long z), (9, .int (nI ((8 * q) + (2 * k))))], [.int (nI ((8 * q) + (2 * ((k + 1) % 4))))], w)
  refine P_istore d_MD_sideOfSide_22 (by decide) rfl ?_
  refine P_aload_n d_MD_sideOfSide_24 rfl ?_
  refine P_getf (i := 3) d_MD_sideOfSide_25 ok_Model (by decide) L_MD_15 em rfl ?_
  refine P_iload d_MD_sideOfSide_28 rfl ?_
  refine P_iald (j := (8 * q) + (2 * ((k + 1) % 4))) d_MD_sideOfSide_30 r469 (ix_nI (by omega)) (by omega) ?_
  refine P_aload_n d_MD_sideOfSide_31 rfl ?_
  refine P_getf (i := 3) d_MD_sideOfSide_32 ok_Model (by decide) L_MD_15 em rfl ?_
  refine P_iload d_MD_sideOfSide_35 rfl ?_
  refine P_iald (j := (8 * q) + (2 * k)) d_MD_sideOfSide_37 r469 (ix_nI (by omega)) (by omega) ?_
  refine P_isub d_MD_sideOfSide_38 ?_
  generalize (f469 ((8 * q) + (2 * ((k + 1) % 4)))) - (f469 ((8 * q) + (2 * k))) = zz1
  show PW _ _ _ _ _ _ (39, [(0, .ref 467), (1, .int (nI q)), (2, .int (nI k)), (3, .long x), (5, .long y), (7, .long z), (9, .int (nI ((8 * q) + (2 * k)))), (10, .int (nI ((8 * q) + (2 * ((k + 1) % 4)))))], [.int zz1], w)
  refine P_i2l d_MD_sideOfSide_39 ?_
  refine P_lstore d_MD_sideOfSide_40 (by decide) rfl ?_
  refine P_aload_n d_MD_sideOfSide_42 rfl ?_
  refine P_getf (i := 3) d_MD_sideOfSide_43 ok_Model (by decide) L_MD_15 em rfl ?_
  refine P_iload d_MD_sideOfSide_46 rfl ?_
  refine P_iconst (v := 1) d_MD_sideOfSide_48 (by decide) ?_
  refine P_iaddN (a := ((8 * q) + (2 * ((k + 1) % 4)))) (b := 1) d_MD_sideOfSide_49 ?_
  show PW _ _ _ _ _ _ (50, [(0, .ref 467), (1, .int (nI q)), (2, .int (nI k)), (3, .long x), (5, .long y), (7, .long z), (9, .int (nI ((8 * q) + (2 * k)))), (10, .int (nI ((8 * q) + (2 * ((k + 1) % 4))))), (11, .long zz1.toInt64)], [.int (nI (((8 * q) + (2 * ((k + 1) % 4))) + 1)), .ref 469], w)
  refine P_iald (j := ((8 * q) + (2 * ((k + 1) % 4))) + 1) d_MD_sideOfSide_50 r469 (ix_nI (by omega)) (by omega) ?_
  refine P_aload_n d_MD_sideOfSide_51 rfl ?_
  refine P_getf (i := 3) d_MD_sideOfSide_52 ok_Model (by decide) L_MD_15 em rfl ?_
  refine P_iload d_MD_sideOfSide_55 rfl ?_
  refine P_iconst (v := 1) d_MD_sideOfSide_57 (by decide) ?_
  refine P_iaddN (a := ((8 * q) + (2 * k))) (b := 1) d_MD_sideOfSide_58 ?_
  show PW _ _ _ _ _ _ (59, [(0, .ref 467), (1, .int (nI q)), (2, .int (nI k)), (3, .long x), (5, .long y), (7, .long z), (9, .int (nI ((8 * q) + (2 * k)))), (10, .int (nI ((8 * q) + (2 * ((k + 1) % 4))))), (11, .long zz1.toInt64)], [.int (nI (((8 * q) + (2 * k)) + 1)), .ref 469, .int (f469 (((8 * q) + (2 * ((k + 1) % 4))) + 1))], w)
  refine P_iald (j := ((8 * q) + (2 * k)) + 1) d_MD_sideOfSide_59 r469 (ix_nI (by omega)) (by omega) ?_
  refine P_isub d_MD_sideOfSide_60 ?_
  generalize (f469 (((8 * q) + (2 * ((k + 1) % 4))) + 1)) - (f469 (((8 * q) + (2 * k)) + 1)) = zz2
  show PW _ _ _ _ _ _ (61, [(0, .ref 467), (1, .int (nI q)), (2, .int (nI k)), (3, .long x), (5, .long y), (7, .long z), (9, .int (nI ((8 * q) + (2 * k)))), (10, .int (nI ((8 * q) + (2 * ((k + 1) % 4))))), (11, .long zz1.toInt64)], [.int zz2], w)
  refine P_i2l d_MD_sideOfSide_61 ?_
  refine P_lstore d_MD_sideOfSide_62 (by decide) rfl ?_
  refine P_lload d_MD_sideOfSide_64 rfl ?_
  refine P_lload d_MD_sideOfSide_66 rfl ?_
  refine P_aload_n d_MD_sideOfSide_68 rfl ?_
  refine P_getf (i := 3) d_MD_sideOfSide_69 ok_Model (by decide) L_MD_15 em rfl ?_
  refine P_iload d_MD_sideOfSide_72 rfl ?_
  refine P_iconst (v := 1) d_MD_sideOfSide_74 (by decide) ?_
  refine P_iaddN (a := ((8 * q) + (2 * k))) (b := 1) d_MD_sideOfSide_75 ?_
  show PW _ _ _ _ _ _ (76, [(0, .ref 467), (1, .int (nI q)), (2, .int (nI k)), (3, .long x), (5, .long y), (7, .long z), (9, .int (nI ((8 * q) + (2 * k)))), (10, .int (nI ((8 * q) + (2 * ((k + 1) % 4))))), (11, .long zz1.toInt64), (13, .long zz2.toInt64)], [.int (nI (((8 * q) + (2 * k)) + 1)), .ref 469, .long y, .long zz1.toInt64], w)
  refine P_iald (j := ((8 * q) + (2 * k)) + 1) d_MD_sideOfSide_76 r469 (ix_nI (by omega)) (by omega) ?_
  refine P_i2l d_MD_sideOfSide_77 ?_
  refine P_lload d_MD_sideOfSide_78 rfl ?_
  refine P_lmul d_MD_sideOfSide_80 ?_
  refine P_lsub d_MD_sideOfSide_81 ?_
  refine P_lmul d_MD_sideOfSide_82 ?_
  generalize zz1.toInt64 * (y - (((f469 (((8 * q) + (2 * k)) + 1)).toInt64) * z)) = zz3
  show PW _ _ _ _ _ _ (83, [(0, .ref 467), (1, .int (nI q)), (2, .int (nI k)), (3, .long x), (5, .long y), (7, .long z), (9, .int (nI ((8 * q) + (2 * k)))), (10, .int (nI ((8 * q) + (2 * ((k + 1) % 4))))), (11, .long zz1.toInt64), (13, .long zz2.toInt64)], [.long zz3], w)
  refine P_lload d_MD_sideOfSide_83 rfl ?_
  refine P_lload_n d_MD_sideOfSide_85 rfl ?_
  refine P_aload_n d_MD_sideOfSide_86 rfl ?_
  refine P_getf (i := 3) d_MD_sideOfSide_87 ok_Model (by decide) L_MD_15 em rfl ?_
  refine P_iload d_MD_sideOfSide_90 rfl ?_
  refine P_iald (j := (8 * q) + (2 * k)) d_MD_sideOfSide_92 r469 (ix_nI (by omega)) (by omega) ?_
  refine P_i2l d_MD_sideOfSide_93 ?_
  refine P_lload d_MD_sideOfSide_94 rfl ?_
  refine P_lmul d_MD_sideOfSide_96 ?_
  refine P_lsub d_MD_sideOfSide_97 ?_
  refine P_lmul d_MD_sideOfSide_98 ?_
  generalize zz2.toInt64 * (x - (((f469 ((8 * q) + (2 * k))).toInt64) * z)) = zz4
  show PW _ _ _ _ _ _ (99, [(0, .ref 467), (1, .int (nI q)), (2, .int (nI k)), (3, .long x), (5, .long y), (7, .long z), (9, .int (nI ((8 * q) + (2 * k)))), (10, .int (nI ((8 * q) + (2 * ((k + 1) % 4))))), (11, .long zz1.toInt64), (13, .long zz2.toInt64)], [.long zz4, .long zz3], w)
  refine P_lsub d_MD_sideOfSide_99 ?_
  refine P_callS (M := M_MD_sideOfSide) (pc := 100) (as := [.long (zz3 - zz4)]) d_MD_sideOfSide_100 co_Long_signum L_MD_311 sm_Long_signum (s_Long_signum (zz3 - zz4)) rfl ⟨by decide, by decide⟩ ⟨by decide, by decide⟩ (by exact le_b rfl) ?_ _ rfl
  rintro _ u ⟨⟨v5, rfl⟩, eu⟩
  subst u
  show PW _ _ _ _ _ _ (103, [(0, .ref 467), (1, .int (nI q)), (2, .int (nI k)), (3, .long x), (5, .long y), (7, .long z), (9, .int (nI ((8 * q) + (2 * k)))), (10, .int (nI ((8 * q) + (2 * ((k + 1) % 4))))), (11, .long zz1.toInt64), (13, .long zz2.toInt64)], [.int v5], w)
  exact P_iret d_MD_sideOfSide_103 rfl (le_b rfl) (le_b rfl) ⟨⟨_, rfl⟩, rfl⟩
theorem s_MD_isOnSide {G : pG} {w : pW} (q : Nat) (hq : q < 8) (k : Nat) (hk : k < 4) (x : Int64) (y : Int64) (z : Int64) {tp qs un : Nat} {nq ln nl sz at_ pl so vl wo fa fp lf lp th rm um sm : Int32} (em : w.2 467 = mO (nI tp) (nI qs) nq (nI un) ln nl sz at_ pl so vl wo fa fp lf lp th rm um sm) (htp : tp ≤ 900) (hqs : qs ≤ 8) (hun : un ≤ 16) {f469 : Nat → Int32} (r469 : w.2 469 = .inl (0, 64, .inl f469)) : PM G M_MD_isOnSide 2 0 0 [.ref 467, .int (nI q), .int (nI k), .long x, .long y, .long z] w (fun r w' => (∃ v, r = some (.int (bi v))) ∧ w' = w) := by
  refine PM_of pn_MD_isOnSide (le_b rfl) ?_
  show PW _ _ _ _ _ _ (0, [(0, .ref 467), (1, .int (nI q)), (2, .int (nI k)), (3, .long x), (5, .long y), (7, .long z)], [], w)
  refine P_bipush (v := 8) d_MD_isOnSide_0 (by decide) ?_
  refine P_iload_n d_MD_isOnSide_2 rfl ?_
  refine P_imulN (a := 8) (b := q) d_MD_isOnSide_3 ?_
  show PW _ _ _ _ _ _ (4, [(0, .ref 467), (1, .int (nI q)), (2, .int (nI k)), (3, .long x), (5, .long y), (7, .long z)], [.int (nI (8 * q))], w)
  refine P_iconst (v := 2) d_MD_isOnSide_4 (by decide) ?_
  refine P_iload_n d_MD_isOnSide_5 rfl ?_
  refine P_imulN (a := 2) (b := k) d_MD_isOnSide_6 ?_
  show PW _ _ _ _ _ _ (7, [(0, .ref 467), (1, .int (nI q)), (2, .int (nI k)), (3, .long x), (5, .long y), (7, .long z)], [.int (nI (2 * k)), .int (nI (8 * q))], w)
  refine P_iaddN (a := (8 * q)) (b := (2 * k)) d_MD_isOnSide_7 ?_
  show PW _ _ _ _ _ _ (8, [(0, .ref 467), (1, .int (nI q)), (2, .int (nI k)), (3, .long x), (5, .long y), (7, .long z)], [.int (nI ((8 * q) + (2 * k)))], w)
  refine P_istore d_MD_isOnSide_8 (by decide) rfl ?_
  refine P_bipush (v := 8) d_MD_isOnSide_10 (by decide) ?_
  refine P_iload_n d_MD_isOnSide_12 rfl ?_
  refine P_imulN (a := 8) (b := q) d_MD_isOnSide_13 ?_
  show PW _ _ _ _ _ _ (14, [(0, .ref 467), (1, .int (nI q)), (2, .int (nI k)), (3, .long x), (5, .long y), (7, .long z), (9, .int (nI ((8 * q) + (2 * k))))], [.int (nI (8 * q))], w)
  refine P_iconst (v := 2) d_MD_isOnSide_14 (by decide) ?_
  refine P_iload_n d_MD_isOnSide_15 rfl ?_
  refine P_iconst (v := 1) d_MD_isOnSide_16 (by decide) ?_
  refine P_iaddN (a := k) (b := 1) d_MD_isOnSide_17 ?_
  show PW _ _ _ _ _ _ (18, [(0, .ref 467), (1, .int (nI q)), (2, .int (nI k)), (3, .long x), (5, .long y), (7, .long z), (9, .int (nI ((8 * q) + (2 * k))))], [.int (nI (k + 1)), .int 2, .int (nI (8 * q))], w)
  refine P_iconst (v := 4) d_MD_isOnSide_18 (by decide) ?_
  refine P_iremN (a := (k + 1)) (b := 4) d_MD_isOnSide_19 (by omega) (by omega) (by omega) ?_
  show PW _ _ _ _ _ _ (20, [(0, .ref 467), (1, .int (nI q)), (2, .int (nI k)), (3, .long x), (5, .long y), (7, .long z), (9, .int (nI ((8 * q) + (2 * k))))], [.int (nI ((k + 1) % 4)), .int 2, .int (nI (8 * q))], w)
  refine P_imulN (a := 2) (b := ((k + 1) % 4)) d_MD_isOnSide_20 ?_
  show PW _ _ _ _ _ _ (21, [(0, .ref 467), (1, .int (nI q)), (2, .int (nI k)), (3, .long x), (5, .long y), (7, .long z), (9, .int (nI ((8 * q) + (2 * k))))], [.int (nI (2 * ((k + 1) % 4))), .int (nI (8 * q))], w)
  refine P_iaddN (a := (8 * q)) (b := (2 * ((k + 1) % 4))) d_MD_isOnSide_21 ?_
  show PW _ _ _ _ _ _ (22, [(0, .ref 467), (1, .int (nI q)), (2, .int (nI k)), (3, .long x), (5, .long y), (7, .long z), (9, .int (nI ((8 * q) + (2 * k))))], [.int (nI ((8 * q) + (2 * ((k + 1) % 4))))], w)
  refine P_istore d_MD_isOnSide_22 (by decide) rfl ?_
  refine P_aload_n d_MD_isOnSide_24 rfl ?_
  refine P_iload_n d_MD_isOnSide_25 rfl ?_
  refine P_iload_n d_MD_isOnSide_26 rfl ?_
  refine P_lload_n d_MD_isOnSide_27 rfl ?_
  refine P_lload d_MD_isOnSide_28 rfl ?_
  refine P_lload d_MD_isOnSide_30 rfl ?_
  refine P_callV (M := M_MD_isOnSide) (pc := 32) (as := [.int (nI q), .int (nI k), .long x, .long y, .long z]) (b := 467) d_MD_isOnSide_32 co_MD_sideOfSide ok_Model em L_MD_377 im_MD_sideOfSide se_MD_sideOfSide (s_MD_sideOfSide q (by omega) k (by omega) x y z em htp hqs hun r469) rfl ⟨by decide, by decide⟩ ⟨by decide, by decide⟩ (by exact le_b rfl) ?_ _ rfl
  rintro _ u ⟨⟨v1, rfl⟩, eu⟩
  subst u
  show PW _ _ _ _ _ _ (35, [(0, .ref 467), (1, .int (nI q)), (2, .int (nI k)), (3, .long x), (5, .long y), (7, .long z), (9, .int (nI ((8 * q) + (2 * k)))), (10, .int (nI ((8 * q) + (2 * ((k + 1) % 4)))))], [.int v1], w)
  refine P_if_ne 105 d_MD_isOnSide_35 (by decide) (fun c2 => ?_) (fun c2 => ?_)
  · refine P_iconst (v := 0) d_MD_isOnSide_105 (by decide) ?_
    exact P_zret d_MD_isOnSide_106 rfl rfl (le_b rfl) (le_b rfl) ⟨⟨false, rfl⟩, rfl⟩
  · refine P_lload_n d_MD_isOnSide_38 rfl ?_
    refine P_aload_n d_MD_isOnSide_39 rfl ?_
    refine P_getf (i := 3) d_MD_isOnSide_40 ok_Model (by decide) L_MD_15 em rfl ?_
    refine P_iload d_MD_isOnSide_43 rfl ?_
    refine P_iald (j := (8 * q) + (2 * k)) d_MD_isOnSide_45 r469 (ix_nI (by omega)) (by omega) ?_
    refine P_i2l d_MD_isOnSide_46 ?_
    refine P_lload d_MD_isOnSide_47 rfl ?_
    refine P_lmul d_MD_isOnSide_49 ?_
    refine P_aload_n d_MD_isOnSide_50 rfl ?_
    refine P_getf (i := 3) d_MD_isOnSide_51 ok_Model (by decide) L_MD_15 em rfl ?_
    refine P_iload d_MD_isOnSide_54 rfl ?_
    refine P_iald (j := (8 * q) + (2 * ((k + 1) % 4))) d_MD_isOnSide_56 r469 (ix_nI (by omega)) (by omega) ?_
    refine P_i2l d_MD_isOnSide_57 ?_
    refine P_lload d_MD_isOnSide_58 rfl ?_
    refine P_lmul d_MD_isOnSide_60 ?_
    refine P_callS (M := M_MD_isOnSide) (pc := 61) (as := [.long x, .long (((f469 ((8 * q) + (2 * k))).toInt64) * z), .long (((f469 ((8 * q) + (2 * ((k + 1) % 4)))).toInt64) * z)]) d_MD_isOnSide_61 co_MD_isBetween L_MD_381 sm_MD_isBetween (s_MD_isBetween x (((f469 ((8 * q) + (2 * k))).toInt64) * z) (((f469 ((8 * q) + (2 * ((k + 1) % 4)))).toInt64) * z)) rfl ⟨by decide, by decide⟩ ⟨by decide, by decide⟩ (by exact le_b rfl) ?_ _ rfl
    rintro _ u ⟨⟨v3, rfl⟩, eu⟩
    subst u
    show PW _ _ _ _ _ _ (64, [(0, .ref 467), (1, .int (nI q)), (2, .int (nI k)), (3, .long x), (5, .long y), (7, .long z), (9, .int (nI ((8 * q) + (2 * k)))), (10, .int (nI ((8 * q) + (2 * ((k + 1) % 4)))))], [.int (bi v3)], w)
    refine P_if_eq 105 d_MD_isOnSide_64 (by decide) (fun c4 => ?_) (fun c4 => ?_)
    · refine P_iconst (v := 0) d_MD_isOnSide_105 (by decide) ?_
      exact P_zret d_MD_isOnSide_106 rfl rfl (le_b rfl) (le_b rfl) ⟨⟨false, rfl⟩, rfl⟩
    · refine P_lload d_MD_isOnSide_67 rfl ?_
      refine P_aload_n d_MD_isOnSide_69 rfl ?_
      refine P_getf (i := 3) d_MD_isOnSide_70 ok_Model (by decide) L_MD_15 em rfl ?_
      refine P_iload d_MD_isOnSide_73 rfl ?_
      refine P_iconst (v := 1) d_MD_isOnSide_75 (by decide) ?_
      refine P_iaddN (a := ((8 * q) + (2 * k))) (b := 1) d_MD_isOnSide_76 ?_
      show PW _ _ _ _ _ _ (77, [(0, .ref 467), (1, .int (nI q)), (2, .int (nI k)), (3, .long x), (5, .long y), (7, .long z), (9, .int (nI ((8 * q) + (2 * k)))), (10, .int (nI ((8 * q) + (2 * ((k + 1) % 4)))))], [.int (nI (((8 * q) + (2 * k)) + 1)), .ref 469, .long y], w)
      refine P_iald (j := ((8 * q) + (2 * k)) + 1) d_MD_isOnSide_77 r469 (ix_nI (by omega)) (by omega) ?_
      refine P_i2l d_MD_isOnSide_78 ?_
      refine P_lload d_MD_isOnSide_79 rfl ?_
      refine P_lmul d_MD_isOnSide_81 ?_
      refine P_aload_n d_MD_isOnSide_82 rfl ?_
      refine P_getf (i := 3) d_MD_isOnSide_83 ok_Model (by decide) L_MD_15 em rfl ?_
      refine P_iload d_MD_isOnSide_86 rfl ?_
      refine P_iconst (v := 1) d_MD_isOnSide_88 (by decide) ?_
      refine P_iaddN (a := ((8 * q) + (2 * ((k + 1) % 4)))) (b := 1) d_MD_isOnSide_89 ?_
      show PW _ _ _ _ _ _ (90, [(0, .ref 467), (1, .int (nI q)), (2, .int (nI k)), (3, .long x), (5, .long y), (7, .long z), (9, .int (nI ((8 * q) + (2 * k)))), (10, .int (nI ((8 * q) + (2 * ((k + 1) % 4)))))], [.int (nI (((8 * q) + (2 * ((k + 1) % 4))) + 1)), .ref 469, .long (((f469 (((8 * q) + (2 * k)) + 1)).toInt64) * z), .long y], w)
      refine P_iald (j := ((8 * q) + (2 * ((k + 1) % 4))) + 1) d_MD_isOnSide_90 r469 (ix_nI (by omega)) (by omega) ?_
      refine P_i2l d_MD_isOnSide_91 ?_
      refine P_lload d_MD_isOnSide_92 rfl ?_
      refine P_lmul d_MD_isOnSide_94 ?_
      refine P_callS (M := M_MD_isOnSide) (pc := 95) (as := [.long y, .long (((f469 (((8 * q) + (2 * k)) + 1)).toInt64) * z), .long (((f469 (((8 * q) + (2 * ((k + 1) % 4))) + 1)).toInt64) * z)]) d_MD_isOnSide_95 co_MD_isBetween L_MD_381 sm_MD_isBetween (s_MD_isBetween y (((f469 (((8 * q) + (2 * k)) + 1)).toInt64) * z) (((f469 (((8 * q) + (2 * ((k + 1) % 4))) + 1)).toInt64) * z)) rfl ⟨by decide, by decide⟩ ⟨by decide, by decide⟩ (by exact le_b rfl) ?_ _ rfl
      rintro _ u ⟨⟨v5, rfl⟩, eu⟩
      subst u
      show PW _ _ _ _ _ _ (98, [(0, .ref 467), (1, .int (nI q)), (2, .int (nI k)), (3, .long x), (5, .long y), (7, .long z), (9, .int (nI ((8 * q) + (2 * k)))), (10, .int (nI ((8 * q) + (2 * ((k + 1) % 4)))))], [.int (bi v5)], w)
      refine P_if_eq 105 d_MD_isOnSide_98 (by decide) (fun c6 => ?_) (fun c6 => ?_)
      · refine P_iconst (v := 0) d_MD_isOnSide_105 (by decide) ?_
        exact P_zret d_MD_isOnSide_106 rfl rfl (le_b rfl) (le_b rfl) ⟨⟨false, rfl⟩, rfl⟩
      · refine P_iconst (v := 1) d_MD_isOnSide_101 (by decide) ?_
        refine P_goto 106 d_MD_isOnSide_102 (by decide) ?_
        exact P_zret d_MD_isOnSide_106 rfl rfl (le_b rfl) (le_b rfl) ⟨⟨true, rfl⟩, rfl⟩
theorem s_MD_isOnSideCorner {G : pG} {w : pW} (q : Nat) (hq : q < 8) (k : Nat) (hk : k < 4) (s : Nat) (hs : s < 8) (c : Nat) (hc : c < 4) {tp qs un : Nat} {nq ln nl sz at_ pl so vl wo fa fp lf lp th rm um sm : Int32} (em : w.2 467 = mO (nI tp) (nI qs) nq (nI un) ln nl sz at_ pl so vl wo fa fp lf lp th rm um sm) (htp : tp ≤ 900) (hqs : qs ≤ 8) (hun : un ≤ 16) {f469 : Nat → Int32} (r469 : w.2 469 = .inl (0, 64, .inl f469)) : PM G M_MD_isOnSideCorner 3 0 0 [.ref 467, .int (nI q), .int (nI k), .int (nI s), .int (nI c)] w (fun r w' => (∃ v, r = some (.int (bi v))) ∧ w' = w) := by
  refine PM_of pn_MD_isOnSideCorner (le_b rfl) ?_
  show PW _ _ _ _ _ _ (0, [(0, .ref 467), (1, .int (nI q)), (2, .int (nI k)), (3, .int (nI s)), (4, .int (nI c))], [], w)
  refine P_aload_n d_MD_isOnSideCorner_0 rfl ?_
  refine P_iload_n d_MD_isOnSideCorner_1 rfl ?_
  refine P_iload_n d_MD_isOnSideCorner_2 rfl ?_
  refine P_aload_n d_MD_isOnSideCorner_3 rfl ?_
  refine P_getf (i := 3) d_MD_isOnSideCorner_4 ok_Model (by decide) L_MD_15 em rfl ?_
  refine P_bipush (v := 8) d_MD_isOnSideCorner_7 (by decide) ?_
  refine P_iload_n d_MD_isOnSideCorner_9 rfl ?_
  refine P_imulN (a := 8) (b := s) d_MD_isOnSideCorner_10 ?_
  show PW _ _ _ _ _ _ (11, [(0, .ref 467), (1, .int (nI q)), (2, .int (nI k)), (3, .int (nI s)), (4, .int (nI c))], [.int (nI (8 * s)), .ref 469, .int (nI k), .int (nI q), .ref 467], w)
  refine P_iconst (v := 2) d_MD_isOnSideCorner_11 (by decide) ?_
  refine P_iload d_MD_isOnSideCorner_12 rfl ?_
  refine P_imulN (a := 2) (b := c) d_MD_isOnSideCorner_14 ?_
  show PW _ _ _ _ _ _ (15, [(0, .ref 467), (1, .int (nI q)), (2, .int (nI k)), (3, .int (nI s)), (4, .int (nI c))], [.int (nI (2 * c)), .int (nI (8 * s)), .ref 469, .int (nI k), .int (nI q), .ref 467], w)
  refine P_iaddN (a := (8 * s)) (b := (2 * c)) d_MD_isOnSideCorner_15 ?_
  show PW _ _ _ _ _ _ (16, [(0, .ref 467), (1, .int (nI q)), (2, .int (nI k)), (3, .int (nI s)), (4, .int (nI c))], [.int (nI ((8 * s) + (2 * c))), .ref 469, .int (nI k), .int (nI q), .ref 467], w)
  refine P_iald (j := (8 * s) + (2 * c)) d_MD_isOnSideCorner_16 r469 (ix_nI (by omega)) (by omega) ?_
  refine P_i2l d_MD_isOnSideCorner_17 ?_
  refine P_aload_n d_MD_isOnSideCorner_18 rfl ?_
  refine P_getf (i := 3) d_MD_isOnSideCorner_19 ok_Model (by decide) L_MD_15 em rfl ?_
  refine P_bipush (v := 8) d_MD_isOnSideCorner_22 (by decide) ?_
  refine P_iload_n d_MD_isOnSideCorner_24 rfl ?_
  refine P_imulN (a := 8) (b := s) d_MD_isOnSideCorner_25 ?_
  show PW _ _ _ _ _ _ (26, [(0, .ref 467), (1, .int (nI q)), (2, .int (nI k)), (3, .int (nI s)), (4, .int (nI c))], [.int (nI (8 * s)), .ref 469, .long ((f469 ((8 * s) + (2 * c))).toInt64), .int (nI k), .int (nI q), .ref 467], w)
  refine P_iconst (v := 2) d_MD_isOnSideCorner_26 (by decide) ?_
  refine P_iload d_MD_isOnSideCorner_27 rfl ?_
  refine P_imulN (a := 2) (b := c) d_MD_isOnSideCorner_29 ?_
  show PW _ _ _ _ _ _ (30, [(0, .ref 467), (1, .int (nI q)), (2, .int (nI k)), (3, .int (nI s)), (4, .int (nI c))], [.int (nI (2 * c)), .int (nI (8 * s)), .ref 469, .long ((f469 ((8 * s) + (2 * c))).toInt64), .int (nI k), .int (nI q), .ref 467], w)
  refine P_iaddN (a := (8 * s)) (b := (2 * c)) d_MD_isOnSideCorner_30 ?_
  show PW _ _ _ _ _ _ (31, [(0, .ref 467), (1, .int (nI q)), (2, .int (nI k)), (3, .int (nI s)), (4, .int (nI c))], [.int (nI ((8 * s) + (2 * c))), .ref 469, .long ((f469 ((8 * s) + (2 * c))).toInt64), .int (nI k), .int (nI q), .ref 467], w)
  refine P_iconst (v := 1) d_MD_isOnSideCorner_31 (by decide) ?_
  refine P_iaddN (a := ((8 * s) + (2 * c))) (b := 1) d_MD_isOnSideCorner_32 ?_
  show PW _ _ _ _ _ _ (33, [(0, .ref 467), (1, .int (nI q)), (2, .int (nI k)), (3, .int (nI s)), (4, .int (nI c))], [.int (nI (((8 * s) + (2 * c)) + 1)), .ref 469, .long ((f469 ((8 * s) + (2 * c))).toInt64), .int (nI k), .int (nI q), .ref 467], w)
  refine P_iald (j := ((8 * s) + (2 * c)) + 1) d_MD_isOnSideCorner_33 r469 (ix_nI (by omega)) (by omega) ?_
  refine P_i2l d_MD_isOnSideCorner_34 ?_
  refine P_lconst (v := 1) d_MD_isOnSideCorner_35 (by decide) ?_
  refine P_callV (M := M_MD_isOnSideCorner) (pc := 36) (as := [.int (nI q), .int (nI k), .long ((f469 ((8 * s) + (2 * c))).toInt64), .long ((f469 (((8 * s) + (2 * c)) + 1)).toInt64), .long 1]) (b := 467) d_MD_isOnSideCorner_36 co_MD_isOnSide ok_Model em L_MD_385 im_MD_isOnSide se_MD_isOnSide (s_MD_isOnSide q (by omega) k (by omega) ((f469 ((8 * s) + (2 * c))).toInt64) ((f469 (((8 * s) + (2 * c)) + 1)).toInt64) 1 em htp hqs hun r469) rfl ⟨by decide, by decide⟩ ⟨by decide, by decide⟩ (by exact le_b rfl) ?_ _ rfl
  rintro _ u ⟨⟨v1, rfl⟩, eu⟩
  subst u
  show PW _ _ _ _ _ _ (39, [(0, .ref 467), (1, .int (nI q)), (2, .int (nI k)), (3, .int (nI s)), (4, .int (nI c))], [.int (bi v1)], w)
  exact P_zret d_MD_isOnSideCorner_39 rfl (nar_bi _) (le_b rfl) (le_b rfl) ⟨⟨_, rfl⟩, rfl⟩
theorem s_MD_sideOfSideCorner {G : pG} {w : pW} (q : Nat) (hq : q < 8) (k : Nat) (hk : k < 4) (s : Nat) (hs : s < 8) (c : Nat) (hc : c < 4) {tp qs un : Nat} {nq ln nl sz at_ pl so vl wo fa fp lf lp th rm um sm : Int32} (em : w.2 467 = mO (nI tp) (nI qs) nq (nI un) ln nl sz at_ pl so vl wo fa fp lf lp th rm um sm) (htp : tp ≤ 900) (hqs : qs ≤ 8) (hun : un ≤ 16) {f469 : Nat → Int32} (r469 : w.2 469 = .inl (0, 64, .inl f469)) : PM G M_MD_sideOfSideCorner 2 0 0 [.ref 467, .int (nI q), .int (nI k), .int (nI s), .int (nI c)] w (fun r w' => (∃ v, r = some (.int v)) ∧ w' = w) := by
  refine PM_of pn_MD_sideOfSideCorner (le_b rfl) ?_
  show PW _ _ _ _ _ _ (0, [(0, .ref 467), (1, .int (nI q)), (2, .int (nI k)), (3, .int (nI s)), (4, .int (nI c))], [], w)
  refine P_aload_n d_MD_sideOfSideCorner_0 rfl ?_
  refine P_iload_n d_MD_sideOfSideCorner_1 rfl ?_
  refine P_iload_n d_MD_sideOfSideCorner_2 rfl ?_
  refine P_aload_n d_MD_sideOfSideCorner_3 rfl ?_
  refine P_getf (i := 3) d_MD_sideOfSideCorner_4 ok_Model (by decide) L_MD_15 em rfl ?_
  refine P_bipush (v := 8) d_MD_sideOfSideCorner_7 (by decide) ?_
  refine P_iload_n d_MD_sideOfSideCorner_9 rfl ?_
  refine P_imulN (a := 8) (b := s) d_MD_sideOfSideCorner_10 ?_
  show PW _ _ _ _ _ _ (11, [(0, .ref 467), (1, .int (nI q)), (2, .int (nI k)), (3, .int (nI s)), (4, .int (nI c))], [.int (nI (8 * s)), .ref 469, .int (nI k), .int (nI q), .ref 467], w)
  refine P_iconst (v := 2) d_MD_sideOfSideCorner_11 (by decide) ?_
  refine P_iload d_MD_sideOfSideCorner_12 rfl ?_
  refine P_imulN (a := 2) (b := c) d_MD_sideOfSideCorner_14 ?_
  show PW _ _ _ _ _ _ (15, [(0, .ref 467), (1, .int (nI q)), (2, .int (nI k)), (3, .int (nI s)), (4, .int (nI c))], [.int (nI (2 * c)), .int (nI (8 * s)), .ref 469, .int (nI k), .int (nI q), .ref 467], w)
  refine P_iaddN (a := (8 * s)) (b := (2 * c)) d_MD_sideOfSideCorner_15 ?_
  show PW _ _ _ _ _ _ (16, [(0, .ref 467), (1, .int (nI q)), (2, .int (nI k)), (3, .int (nI s)), (4, .int (nI c))], [.int (nI ((8 * s) + (2 * c))), .ref 469, .int (nI k), .int (nI q), .ref 467], w)
  refine P_iald (j := (8 * s) + (2 * c)) d_MD_sideOfSideCorner_16 r469 (ix_nI (by omega)) (by omega) ?_
  refine P_i2l d_MD_sideOfSideCorner_17 ?_
  refine P_aload_n d_MD_sideOfSideCorner_18 rfl ?_
  refine P_getf (i := 3) d_MD_sideOfSideCorner_19 ok_Model (by decide) L_MD_15 em rfl ?_
  refine P_bipush (v := 8) d_MD_sideOfSideCorner_22 (by decide) ?_
  refine P_iload_n d_MD_sideOfSideCorner_24 rfl ?_
  refine P_imulN (a := 8) (b := s) d_MD_sideOfSideCorner_25 ?_
  show PW _ _ _ _ _ _ (26, [(0, .ref 467), (1, .int (nI q)), (2, .int (nI k)), (3, .int (nI s)), (4, .int (nI c))], [.int (nI (8 * s)), .ref 469, .long ((f469 ((8 * s) + (2 * c))).toInt64), .int (nI k), .int (nI q), .ref 467], w)
  refine P_iconst (v := 2) d_MD_sideOfSideCorner_26 (by decide) ?_
  refine P_iload d_MD_sideOfSideCorner_27 rfl ?_
  refine P_imulN (a := 2) (b := c) d_MD_sideOfSideCorner_29 ?_
  show PW _ _ _ _ _ _ (30, [(0, .ref 467), (1, .int (nI q)), (2, .int (nI k)), (3, .int (nI s)), (4, .int (nI c))], [.int (nI (2 * c)), .int (nI (8 * s)), .ref 469, .long ((f469 ((8 * s) + (2 * c))).toInt64), .int (nI k), .int (nI q), .ref 467], w)
  refine P_iaddN (a := (8 * s)) (b := (2 * c)) d_MD_sideOfSideCorner_30 ?_
  show PW _ _ _ _ _ _ (31, [(0, .ref 467), (1, .int (nI q)), (2, .int (nI k)), (3, .int (nI s)), (4, .int (nI c))], [.int (nI ((8 * s) + (2 * c))), .ref 469, .long ((f469 ((8 * s) + (2 * c))).toInt64), .int (nI k), .int (nI q), .ref 467], w)
  refine P_iconst (v := 1) d_MD_sideOfSideCorner_31 (by decide) ?_
  refine P_iaddN (a := ((8 * s) + (2 * c))) (b := 1) d_MD_sideOfSideCorner_32 ?_
  show PW _ _ _ _ _ _ (33, [(0, .ref 467), (1, .int (nI q)), (2, .int (nI k)), (3, .int (nI s)), (4, .int (nI c))], [.int (nI (((8 * s) + (2 * c)) + 1)), .ref 469, .long ((f469 ((8 * s) + (2 * c))).toInt64), .int (nI k), .int (nI q), .ref 467], w)
  refine P_iald (j := ((8 * s) + (2 * c)) + 1) d_MD_sideOfSideCorner_33 r469 (ix_nI (by omega)) (by omega) ?_
  refine P_i2l d_MD_sideOfSideCorner_34 ?_
  refine P_lconst (v := 1) d_MD_sideOfSideCorner_35 (by decide) ?_
  refine P_callV (M := M_MD_sideOfSideCorner) (pc := 36) (as := [.int (nI q), .int (nI k), .long ((f469 ((8 * s) + (2 * c))).toInt64), .long ((f469 (((8 * s) + (2 * c)) + 1)).toInt64), .long 1]) (b := 467) d_MD_sideOfSideCorner_36 co_MD_sideOfSide ok_Model em L_MD_377 im_MD_sideOfSide se_MD_sideOfSide (s_MD_sideOfSide q (by omega) k (by omega) ((f469 ((8 * s) + (2 * c))).toInt64) ((f469 (((8 * s) + (2 * c)) + 1)).toInt64) 1 em htp hqs hun r469) rfl ⟨by decide, by decide⟩ ⟨by decide, by decide⟩ (by exact le_b rfl) ?_ _ rfl
  rintro _ u ⟨⟨v1, rfl⟩, eu⟩
  subst u
  show PW _ _ _ _ _ _ (39, [(0, .ref 467), (1, .int (nI q)), (2, .int (nI k)), (3, .int (nI s)), (4, .int (nI c))], [.int v1], w)
  exact P_iret d_MD_sideOfSideCorner_39 rfl (le_b rfl) (le_b rfl) ⟨⟨_, rfl⟩, rfl⟩
theorem s_MD_doMeet {G : pG} {w : pW} (q : Nat) (hq : q < 8) (k : Nat) (hk : k < 4) (s : Nat) (hs : s < 8) (i : Nat) (hi : i < 4) {tp qs un : Nat} {nq ln nl sz at_ pl so vl wo fa fp lf lp th rm um sm : Int32} (em : w.2 467 = mO (nI tp) (nI qs) nq (nI un) ln nl sz at_ pl so vl wo fa fp lf lp th rm um sm) (htp : tp ≤ 900) (hqs : qs ≤ 8) (hun : un ≤ 16) {f469 : Nat → Int32} (r469 : w.2 469 = .inl (0, 64, .inl f469)) : PM G M_MD_doMeet 4 0 0 [.ref 467, .int (nI q), .int (nI k), .int (nI s), .int (nI i)] w (fun r w' => (∃ v, r = some (.int (bi v))) ∧ w' = w) := by
  refine PM_of pn_MD_doMeet (le_b rfl) ?_
  show PW _ _ _ _ _ _ (0, [(0, .ref 467), (1, .int (nI q)), (2, .int (nI k)), (3, .int (nI s)), (4, .int (nI i))], [], w)
  refine P_iload d_MD_doMeet_0 rfl ?_
  refine P_iconst (v := 1) d_MD_doMeet_2 (by decide) ?_
  refine P_iaddN (a := i) (b := 1) d_MD_doMeet_3 ?_
  show PW _ _ _ _ _ _ (4, [(0, .ref 467), (1, .int (nI q)), (2, .int (nI k)), (3, .int (nI s)), (4, .int (nI i))], [.int (nI (i + 1))], w)
  refine P_iconst (v := 4) d_MD_doMeet_4 (by decide) ?_
  refine P_iremN (a := (i + 1)) (b := 4) d_MD_doMeet_5 (by omega) (by omega) (by omega) ?_
  show PW _ _ _ _ _ _ (6, [(0, .ref 467), (1, .int (nI q)), (2, .int (nI k)), (3, .int (nI s)), (4, .int (nI i))], [.int (nI ((i + 1) % 4))], w)
  refine P_istore d_MD_doMeet_6 (by decide) rfl ?_
  refine P_iload_n d_MD_doMeet_8 rfl ?_
  refine P_iconst (v := 1) d_MD_doMeet_9 (by decide) ?_
  refine P_iaddN (a := k) (b := 1) d_MD_doMeet_10 ?_
  show PW _ _ _ _ _ _ (11, [(0, .ref 467), (1, .int (nI q)), (2, .int (nI k)), (3, .int (nI s)), (4, .int (nI i)), (5, .int (nI ((i + 1) % 4)))], [.int (nI (k + 1))], w)
  refine P_iconst (v := 4) d_MD_doMeet_11 (by decide) ?_
  refine P_iremN (a := (k + 1)) (b := 4) d_MD_doMeet_12 (by omega) (by omega) (by omega) ?_
  show PW _ _ _ _ _ _ (13, [(0, .ref 467), (1, .int (nI q)), (2, .int (nI k)), (3, .int (nI s)), (4, .int (nI i)), (5, .int (nI ((i + 1) % 4)))], [.int (nI ((k + 1) % 4))], w)
  refine P_istore d_MD_doMeet_13 (by decide) rfl ?_
  refine P_aload_n d_MD_doMeet_15 rfl ?_
  refine P_iload_n d_MD_doMeet_16 rfl ?_
  refine P_iload_n d_MD_doMeet_17 rfl ?_
  refine P_iload_n d_MD_doMeet_18 rfl ?_
  refine P_iload d_MD_doMeet_19 rfl ?_
  refine P_callV (M := M_MD_doMeet) (pc := 21) (as := [.int (nI q), .int (nI k), .int (nI s), .int (nI i)]) (b := 467) d_MD_doMeet_21 co_MD_isOnSideCorner ok_Model em L_MD_389 im_MD_isOnSideCorner se_MD_isOnSideCorner (s_MD_isOnSideCorner q (by omega) k (by omega) s (by omega) i (by omega) em htp hqs hun r469) rfl ⟨by decide, by decide⟩ ⟨by decide, by decide⟩ (by exact le_b rfl) ?_ _ rfl
  rintro _ u ⟨⟨v1, rfl⟩, eu⟩
  subst u
  show PW _ _ _ _ _ _ (24, [(0, .ref 467), (1, .int (nI q)), (2, .int (nI k)), (3, .int (nI s)), (4, .int (nI i)), (5, .int (nI ((i + 1) % 4))), (6, .int (nI ((k + 1) % 4)))], [.int (bi v1)], w)
  refine P_if_ne 64 d_MD_doMeet_24 (by decide) (fun c2 => ?_) (fun c2 => ?_)
  · refine P_iconst (v := 1) d_MD_doMeet_64 (by decide) ?_
    exact P_zret d_MD_doMeet_65 rfl rfl (le_b rfl) (le_b rfl) ⟨⟨true, rfl⟩, rfl⟩
  · refine P_aload_n d_MD_doMeet_27 rfl ?_
    refine P_iload_n d_MD_doMeet_28 rfl ?_
    refine P_iload_n d_MD_doMeet_29 rfl ?_
    refine P_iload_n d_MD_doMeet_30 rfl ?_
    refine P_iload d_MD_doMeet_31 rfl ?_
    refine P_callV (M := M_MD_doMeet) (pc := 33) (as := [.int (nI q), .int (nI k), .int (nI s), .int (nI ((i + 1) % 4))]) (b := 467) d_MD_doMeet_33 co_MD_isOnSideCorner ok_Model em L_MD_389 im_MD_isOnSideCorner se_MD_isOnSideCorner (s_MD_isOnSideCorner q (by omega) k (by omega) s (by omega) ((i + 1) % 4) (by omega) em htp hqs hun r469) rfl ⟨by decide, by decide⟩ ⟨by decide, by decide⟩ (by exact le_b rfl) ?_ _ rfl
    rintro _ u ⟨⟨v3, rfl⟩, eu⟩
    subst u
    show PW _ _ _ _ _ _ (36, [(0, .ref 467), (1, .int (nI q)), (2, .int (nI k)), (3, .int (nI s)), (4, .int (nI i)), (5, .int (nI ((i + 1) % 4))), (6, .int (nI ((k + 1) % 4)))], [.int (bi v3)], w)
    refine P_if_ne 64 d_MD_doMeet_36 (by decide) (fun c4 => ?_) (fun c4 => ?_)
    · refine P_iconst (v := 1) d_MD_doMeet_64 (by decide) ?_
      exact P_zret d_MD_doMeet_65 rfl rfl (le_b rfl) (le_b rfl) ⟨⟨true, rfl⟩, rfl⟩
    · refine P_aload_n d_MD_doMeet_39 rfl ?_
      refine P_iload_n d_MD_doMeet_40 rfl ?_
      refine P_iload d_MD_doMeet_41 rfl ?_
      refine P_iload_n d_MD_doMeet_43 rfl ?_
      refine P_iload_n d_MD_doMeet_44 rfl ?_
      refine P_callV (M := M_MD_doMeet) (pc := 45) (as := [.int (nI s), .int (nI i), .int (nI q), .int (nI k)]) (b := 467) d_MD_doMeet_45 co_MD_isOnSideCorner ok_Model em L_MD_389 im_MD_isOnSideCorner se_MD_isOnSideCorner (s_MD_isOnSideCorner s (by omega) i (by omega) q (by omega) k (by omega) em htp hqs hun r469) rfl ⟨by decide, by decide⟩ ⟨by decide, by decide⟩ (by exact le_b rfl) ?_ _ rfl
      rintro _ u ⟨⟨v5, rfl⟩, eu⟩
      subst u
      show PW _ _ _ _ _ _ (48, [(0, .ref 467), (1, .int (nI q)), (2, .int (nI k)), (3, .int (nI s)), (4, .int (nI i)), (5, .int (nI ((i + 1) % 4))), (6, .int (nI ((k + 1) % 4)))], [.int (bi v5)], w)
      refine P_if_ne 64 d_MD_doMeet_48 (by decide) (fun c6 => ?_) (fun c6 => ?_)
      · refine P_iconst (v := 1) d_MD_doMeet_64 (by decide) ?_
        exact P_zret d_MD_doMeet_65 rfl rfl (le_b rfl) (le_b rfl) ⟨⟨true, rfl⟩, rfl⟩
      · refine P_aload_n d_MD_doMeet_51 rfl ?_
        refine P_iload_n d_MD_doMeet_52 rfl ?_
        refine P_iload d_MD_doMeet_53 rfl ?_
        refine P_iload_n d_MD_doMeet_55 rfl ?_
        refine P_iload d_MD_doMeet_56 rfl ?_
        refine P_callV (M := M_MD_doMeet) (pc := 58) (as := [.int (nI s), .int (nI i), .int (nI q), .int (nI ((k + 1) % 4))]) (b := 467) d_MD_doMeet_58 co_MD_isOnSideCorner ok_Model em L_MD_389 im_MD_isOnSideCorner se_MD_isOnSideCorner (s_MD_isOnSideCorner s (by omega) i (by omega) q (by omega) ((k + 1) % 4) (by omega) em htp hqs hun r469) rfl ⟨by decide, by decide⟩ ⟨by decide, by decide⟩ (by exact le_b rfl) ?_ _ rfl
        rintro _ u ⟨⟨v7, rfl⟩, eu⟩
        subst u
        show PW _ _ _ _ _ _ (61, [(0, .ref 467), (1, .int (nI q)), (2, .int (nI k)), (3, .int (nI s)), (4, .int (nI i)), (5, .int (nI ((i + 1) % 4))), (6, .int (nI ((k + 1) % 4)))], [.int (bi v7)], w)
        refine P_if_eq 66 d_MD_doMeet_61 (by decide) (fun c8 => ?_) (fun c8 => ?_)
        · refine P_aload_n d_MD_doMeet_66 rfl ?_
          refine P_iload_n d_MD_doMeet_67 rfl ?_
          refine P_iload_n d_MD_doMeet_68 rfl ?_
          refine P_iload_n d_MD_doMeet_69 rfl ?_
          refine P_iload d_MD_doMeet_70 rfl ?_
          refine P_callV (M := M_MD_doMeet) (pc := 72) (as := [.int (nI q), .int (nI k), .int (nI s), .int (nI i)]) (b := 467) d_MD_doMeet_72 co_MD_sideOfSideCorner ok_Model em L_MD_393 im_MD_sideOfSideCorner se_MD_sideOfSideCorner (s_MD_sideOfSideCorner q (by omega) k (by omega) s (by omega) i (by omega) em htp hqs hun r469) rfl ⟨by decide, by decide⟩ ⟨by decide, by decide⟩ (by exact le_b rfl) ?_ _ rfl
          rintro _ u ⟨⟨v9, rfl⟩, eu⟩
          subst u
          show PW _ _ _ _ _ _ (75, [(0, .ref 467), (1, .int (nI q)), (2, .int (nI k)), (3, .int (nI s)), (4, .int (nI i)), (5, .int (nI ((i + 1) % 4))), (6, .int (nI ((k + 1) % 4)))], [.int v9], w)
          refine P_aload_n d_MD_doMeet_75 rfl ?_
          refine P_iload_n d_MD_doMeet_76 rfl ?_
          refine P_iload_n d_MD_doMeet_77 rfl ?_
          refine P_iload_n d_MD_doMeet_78 rfl ?_
          refine P_iload d_MD_doMeet_79 rfl ?_
          refine P_callV (M := M_MD_doMeet) (pc := 81) (as := [.int (nI q), .int (nI k), .int (nI s), .int (nI ((i + 1) % 4))]) (b := 467) d_MD_doMeet_81 co_MD_sideOfSideCorner ok_Model em L_MD_393 im_MD_sideOfSideCorner se_MD_sideOfSideCorner (s_MD_sideOfSideCorner q (by omega) k (by omega) s (by omega) ((i + 1) % 4) (by omega) em htp hqs hun r469) rfl ⟨by decide, by decide⟩ ⟨by decide, by decide⟩ (by exact le_b rfl) ?_ _ rfl
          rintro _ u ⟨⟨v10, rfl⟩, eu⟩
          subst u
          show PW _ _ _ _ _ _ (84, [(0, .ref 467), (1, .int (nI q)), (2, .int (nI k)), (3, .int (nI s)), (4, .int (nI i)), (5, .int (nI ((i + 1) % 4))), (6, .int (nI ((k + 1) % 4)))], [.int v10, .int v9], w)
          refine P_imul d_MD_doMeet_84 ?_
          refine P_if_ge 92 d_MD_doMeet_85 (by decide) (fun c11 => ?_) (fun c11 => ?_)
          · refine P_iconst (v := 0) d_MD_doMeet_92 (by decide) ?_
            refine P_istore d_MD_doMeet_93 (by decide) rfl ?_
            refine P_iload d_MD_doMeet_95 rfl ?_
            refine P_if_eq 127 d_MD_doMeet_97 (by decide) (fun _ => ?_) (fun h => absurd (by decide) h)
            refine P_iconst (v := 0) d_MD_doMeet_127 (by decide) ?_
            exact P_zret d_MD_doMeet_128 rfl rfl (le_b rfl) (le_b rfl) ⟨⟨false, rfl⟩, rfl⟩
          · refine P_iconst (v := 1) d_MD_doMeet_88 (by decide) ?_
            refine P_goto 93 d_MD_doMeet_89 (by decide) ?_
            refine P_istore d_MD_doMeet_93 (by decide) rfl ?_
            refine P_iload d_MD_doMeet_95 rfl ?_
            refine P_if_eq 127 d_MD_doMeet_97 (by decide) (fun h => absurd h (by decide)) (fun _ => ?_)
            refine P_aload_n d_MD_doMeet_100 rfl ?_
            refine P_iload_n d_MD_doMeet_101 rfl ?_
            refine P_iload d_MD_doMeet_102 rfl ?_
            refine P_iload_n d_MD_doMeet_104 rfl ?_
            refine P_iload_n d_MD_doMeet_105 rfl ?_
            refine P_callV (M := M_MD_doMeet) (pc := 106) (as := [.int (nI s), .int (nI i), .int (nI q), .int (nI k)]) (b := 467) d_MD_doMeet_106 co_MD_sideOfSideCorner ok_Model em L_MD_393 im_MD_sideOfSideCorner se_MD_sideOfSideCorner (s_MD_sideOfSideCorner s (by omega) i (by omega) q (by omega) k (by omega) em htp hqs hun r469) rfl ⟨by decide, by decide⟩ ⟨by decide, by decide⟩ (by exact le_b rfl) ?_ _ rfl
            rintro _ u ⟨⟨v12, rfl⟩, eu⟩
            subst u
            show PW _ _ _ _ _ _ (109, [(0, .ref 467), (1, .int (nI q)), (2, .int (nI k)), (3, .int (nI s)), (4, .int (nI i)), (5, .int (nI ((i + 1) % 4))), (6, .int (nI ((k + 1) % 4))), (7, .int 1)], [.int v12], w)
            refine P_aload_n d_MD_doMeet_109 rfl ?_
            refine P_iload_n d_MD_doMeet_110 rfl ?_
            refine P_iload d_MD_doMeet_111 rfl ?_
            refine P_iload_n d_MD_doMeet_113 rfl ?_
            refine P_iload d_MD_doMeet_114 rfl ?_
            refine P_callV (M := M_MD_doMeet) (pc := 116) (as := [.int (nI s), .int (nI i), .int (nI q), .int (nI ((k + 1) % 4))]) (b := 467) d_MD_doMeet_116 co_MD_sideOfSideCorner ok_Model em L_MD_393 im_MD_sideOfSideCorner se_MD_sideOfSideCorner (s_MD_sideOfSideCorner s (by omega) i (by omega) q (by omega) ((k + 1) % 4) (by omega) em htp hqs hun r469) rfl ⟨by decide, by decide⟩ ⟨by decide, by decide⟩ (by exact le_b rfl) ?_ _ rfl
            rintro _ u ⟨⟨v13, rfl⟩, eu⟩
            subst u
            show PW _ _ _ _ _ _ (119, [(0, .ref 467), (1, .int (nI q)), (2, .int (nI k)), (3, .int (nI s)), (4, .int (nI i)), (5, .int (nI ((i + 1) % 4))), (6, .int (nI ((k + 1) % 4))), (7, .int 1)], [.int v13, .int v12], w)
            refine P_imul d_MD_doMeet_119 ?_
            refine P_if_ge 127 d_MD_doMeet_120 (by decide) (fun c14 => ?_) (fun c14 => ?_)
            · refine P_iconst (v := 0) d_MD_doMeet_127 (by decide) ?_
              exact P_zret d_MD_doMeet_128 rfl rfl (le_b rfl) (le_b rfl) ⟨⟨false, rfl⟩, rfl⟩
            · refine P_iconst (v := 1) d_MD_doMeet_123 (by decide) ?_
              refine P_goto 128 d_MD_doMeet_124 (by decide) ?_
              exact P_zret d_MD_doMeet_128 rfl rfl (le_b rfl) (le_b rfl) ⟨⟨true, rfl⟩, rfl⟩
        · refine P_iconst (v := 1) d_MD_doMeet_64 (by decide) ?_
          exact P_zret d_MD_doMeet_65 rfl rfl (le_b rfl) (le_b rfl) ⟨⟨true, rfl⟩, rfl⟩
theorem s_MD_turnBy {G : pG} {w : pW} (m : Nat) (hm : m < 16) (q : Nat) (hq : q < 8) (a : Nat) (ha : a < 4) (b : Nat) (hb : b < 4) (c : Nat) (hc : c < 4) {tp qs un : Nat} {nq ln nl sz at_ pl so vl wo fa fp lf lp th rm um sm : Int32} (em : w.2 467 = mO (nI tp) (nI qs) nq (nI un) ln nl sz at_ pl so vl wo fa fp lf lp th rm um sm) (htp : tp ≤ 900) (hqs : qs ≤ 8) (hun : un ≤ 16) {f469 : Nat → Int32} (r469 : w.2 469 = .inl (0, 64, .inl f469)) {fn : Nat → Int64} (r471 : w.2 471 = .inl (1, 170, .inr (.inl fn))) {nm np : Nat} (hnm : nm ≤ 16) (e8 : fn 168 = lN nm) (hnp : np ≤ 8) (e9 : fn 169 = lN np) : PM G M_MD_turnBy 3 0 0 [.ref 467, .int (nI m), .int (nI q), .int (nI a), .int (nI b), .int (nI c)] w (fun r w' => (∃ v, r = some (.int v)) ∧ w' = w) := by
  refine PM_of pn_MD_turnBy (le_b rfl) ?_
  show PW _ _ _ _ _ _ (0, [(0, .ref 467), (1, .int (nI m)), (2, .int (nI q)), (3, .int (nI a)), (4, .int (nI b)), (5, .int (nI c))], [], w)
  refine P_aload_n d_MD_turnBy_0 rfl ?_
  refine P_iload_n d_MD_turnBy_1 rfl ?_
  refine P_iload_n d_MD_turnBy_2 rfl ?_
  refine P_iload_n d_MD_turnBy_3 rfl ?_
  refine P_callV (M := M_MD_turnBy) (pc := 4) (as := [.int (nI m), .int (nI q), .int (nI a)]) (b := 467) d_MD_turnBy_4 co_MD_sideOfCorner ok_Model em L_MD_319 im_MD_sideOfCorner se_MD_sideOfCorner (s_MD_sideOfCorner m (by omega) q (by omega) a (by omega) em htp hqs hun r469 r471 hnm e8 hnp e9) rfl ⟨by decide, by decide⟩ ⟨by decide, by decide⟩ (by exact le_b rfl) ?_ _ rfl
  rintro _ u ⟨⟨v1, rfl⟩, eu⟩
  subst u
  show PW _ _ _ _ _ _ (7, [(0, .ref 467), (1, .int (nI m)), (2, .int (nI q)), (3, .int (nI a)), (4, .int (nI b)), (5, .int (nI c))], [.int v1], w)
  refine P_aload_n d_MD_turnBy_7 rfl ?_
  refine P_iload_n d_MD_turnBy_8 rfl ?_
  refine P_iload_n d_MD_turnBy_9 rfl ?_
  refine P_iload d_MD_turnBy_10 rfl ?_
  refine P_callV (M := M_MD_turnBy) (pc := 12) (as := [.int (nI m), .int (nI q), .int (nI b)]) (b := 467) d_MD_turnBy_12 co_MD_sideOfCorner ok_Model em L_MD_319 im_MD_sideOfCorner se_MD_sideOfCorner (s_MD_sideOfCorner m (by omega) q (by omega) b (by omega) em htp hqs hun r469 r471 hnm e8 hnp e9) rfl ⟨by decide, by decide⟩ ⟨by decide, by decide⟩ (by exact le_b rfl) ?_ _ rfl
  rintro _ u ⟨⟨v2, rfl⟩, eu⟩
  subst u
  show PW _ _ _ _ _ _ (15, [(0, .ref 467), (1, .int (nI m)), (2, .int (nI q)), (3, .int (nI a)), (4, .int (nI b)), (5, .int (nI c))], [.int v2, .int v1], w)
  refine P_imul d_MD_turnBy_15 ?_
  refine P_aload_n d_MD_turnBy_16 rfl ?_
  refine P_iload_n d_MD_turnBy_17 rfl ?_
  refine P_iload_n d_MD_turnBy_18 rfl ?_
  refine P_iload d_MD_turnBy_19 rfl ?_
  refine P_callV (M := M_MD_turnBy) (pc := 21) (as := [.int (nI m), .int (nI q), .int (nI c)]) (b := 467) d_MD_turnBy_21 co_MD_sideOfCorner ok_Model em L_MD_319 im_MD_sideOfCorner se_MD_sideOfCorner (s_MD_sideOfCorner m (by omega) q (by omega) c (by omega) em htp hqs hun r469 r471 hnm e8 hnp e9) rfl ⟨by decide, by decide⟩ ⟨by decide, by decide⟩ (by exact le_b rfl) ?_ _ rfl
  rintro _ u ⟨⟨v3, rfl⟩, eu⟩
  subst u
  show PW _ _ _ _ _ _ (24, [(0, .ref 467), (1, .int (nI m)), (2, .int (nI q)), (3, .int (nI a)), (4, .int (nI b)), (5, .int (nI c))], [.int v3, .int (v1 * v2)], w)
  refine P_imul d_MD_turnBy_24 ?_
  refine P_istore d_MD_turnBy_25 (by decide) rfl ?_
  refine P_aload_n d_MD_turnBy_27 rfl ?_
  refine P_getf (i := 3) d_MD_turnBy_28 ok_Model (by decide) L_MD_15 em rfl ?_
  refine P_iload_n d_MD_turnBy_31 rfl ?_
  refine P_iload_n d_MD_turnBy_32 rfl ?_
  refine P_iload d_MD_turnBy_33 rfl ?_
  refine P_iload d_MD_turnBy_35 rfl ?_
  refine P_callS (M := M_MD_turnBy) (pc := 37) (as := [.ref 469, .int (nI q), .int (nI a), .int (nI b), .int (nI c)]) d_MD_turnBy_37 co_MD_areaOf L_MD_161 sm_MD_areaOf (s_MD_areaOf r469 (by decide) q (by omega) a (by omega) b (by omega) c (by omega) (by omega)) rfl ⟨by decide, by decide⟩ ⟨by decide, by decide⟩ (by exact le_b rfl) ?_ _ rfl
  rintro _ u ⟨⟨v4, rfl⟩, eu⟩
  subst u
  show PW _ _ _ _ _ _ (40, [(0, .ref 467), (1, .int (nI m)), (2, .int (nI q)), (3, .int (nI a)), (4, .int (nI b)), (5, .int (nI c)), (6, .int ((v1 * v2) * v3))], [.int v4], w)
  refine P_if_le 48 d_MD_turnBy_40 (by decide) (fun c5 => ?_) (fun c5 => ?_)
  · refine P_iload d_MD_turnBy_48 rfl ?_
    refine P_ineg d_MD_turnBy_50 ?_
    exact P_iret d_MD_turnBy_51 rfl (le_b rfl) (le_b rfl) ⟨⟨_, rfl⟩, rfl⟩
  · refine P_iload d_MD_turnBy_43 rfl ?_
    refine P_goto 51 d_MD_turnBy_45 (by decide) ?_
    exact P_iret d_MD_turnBy_51 rfl (le_b rfl) (le_b rfl) ⟨⟨_, rfl⟩, rfl⟩
theorem s_MD_doCrossBy {G : pG} {w : pW} (m : Nat) (hm : m < 16) (q : Nat) (hq : q < 8) (a : Nat) (ha : a < 4) (b : Nat) (hb : b < 4) (c : Nat) (hc : c < 4) (d : Nat) (hd : d < 4) {tp qs un : Nat} {nq ln nl sz at_ pl so vl wo fa fp lf lp th rm um sm : Int32} (em : w.2 467 = mO (nI tp) (nI qs) nq (nI un) ln nl sz at_ pl so vl wo fa fp lf lp th rm um sm) (htp : tp ≤ 900) (hqs : qs ≤ 8) (hun : un ≤ 16) {f469 : Nat → Int32} (r469 : w.2 469 = .inl (0, 64, .inl f469)) {fn : Nat → Int64} (r471 : w.2 471 = .inl (1, 170, .inr (.inl fn))) {nm np : Nat} (hnm : nm ≤ 16) (e8 : fn 168 = lN nm) (hnp : np ≤ 8) (e9 : fn 169 = lN np) : PM G M_MD_doCrossBy 4 0 0 [.ref 467, .int (nI m), .int (nI q), .int (nI a), .int (nI b), .int (nI c), .int (nI d)] w (fun r w' => (∃ v, r = some (.int (bi v))) ∧ w' = w) := by
  refine PM_of pn_MD_doCrossBy (le_b rfl) ?_
  show PW _ _ _ _ _ _ (0, [(0, .ref 467), (1, .int (nI m)), (2, .int (nI q)), (3, .int (nI a)), (4, .int (nI b)), (5, .int (nI c)), (6, .int (nI d))], [], w)
  refine P_aload_n d_MD_doCrossBy_0 rfl ?_
  refine P_iload_n d_MD_doCrossBy_1 rfl ?_
  refine P_iload_n d_MD_doCrossBy_2 rfl ?_
  refine P_iload_n d_MD_doCrossBy_3 rfl ?_
  refine P_iload d_MD_doCrossBy_4 rfl ?_
  refine P_iload d_MD_doCrossBy_6 rfl ?_
  refine P_callV (M := M_MD_doCrossBy) (pc := 8) (as := [.int (nI m), .int (nI q), .int (nI a), .int (nI b), .int (nI c)]) (b := 467) d_MD_doCrossBy_8 co_MD_turnBy ok_Model em L_MD_407 im_MD_turnBy se_MD_turnBy (s_MD_turnBy m (by omega) q (by omega) a (by omega) b (by omega) c (by omega) em htp hqs hun r469 r471 hnm e8 hnp e9) rfl ⟨by decide, by decide⟩ ⟨by decide, by decide⟩ (by exact le_b rfl) ?_ _ rfl
  rintro _ u ⟨⟨v1, rfl⟩, eu⟩
  subst u
  show PW _ _ _ _ _ _ (11, [(0, .ref 467), (1, .int (nI m)), (2, .int (nI q)), (3, .int (nI a)), (4, .int (nI b)), (5, .int (nI c)), (6, .int (nI d))], [.int v1], w)
  refine P_aload_n d_MD_doCrossBy_11 rfl ?_
  refine P_iload_n d_MD_doCrossBy_12 rfl ?_
  refine P_iload_n d_MD_doCrossBy_13 rfl ?_
  refine P_iload_n d_MD_doCrossBy_14 rfl ?_
  refine P_iload d_MD_doCrossBy_15 rfl ?_
  refine P_iload d_MD_doCrossBy_17 rfl ?_
  refine P_callV (M := M_MD_doCrossBy) (pc := 19) (as := [.int (nI m), .int (nI q), .int (nI a), .int (nI b), .int (nI d)]) (b := 467) d_MD_doCrossBy_19 co_MD_turnBy ok_Model em L_MD_407 im_MD_turnBy se_MD_turnBy (s_MD_turnBy m (by omega) q (by omega) a (by omega) b (by omega) d (by omega) em htp hqs hun r469 r471 hnm e8 hnp e9) rfl ⟨by decide, by decide⟩ ⟨by decide, by decide⟩ (by exact le_b rfl) ?_ _ rfl
  rintro _ u ⟨⟨v2, rfl⟩, eu⟩
  subst u
  show PW _ _ _ _ _ _ (22, [(0, .ref 467), (1, .int (nI m)), (2, .int (nI q)), (3, .int (nI a)), (4, .int (nI b)), (5, .int (nI c)), (6, .int (nI d))], [.int v2, .int v1], w)
  refine P_icmp_eq 55 d_MD_doCrossBy_22 (by decide) (fun c3 => ?_) (fun c3 => ?_)
  · refine P_iconst (v := 0) d_MD_doCrossBy_55 (by decide) ?_
    exact P_zret d_MD_doCrossBy_56 rfl rfl (le_b rfl) (le_b rfl) ⟨⟨false, rfl⟩, rfl⟩
  · refine P_aload_n d_MD_doCrossBy_25 rfl ?_
    refine P_iload_n d_MD_doCrossBy_26 rfl ?_
    refine P_iload_n d_MD_doCrossBy_27 rfl ?_
    refine P_iload d_MD_doCrossBy_28 rfl ?_
    refine P_iload d_MD_doCrossBy_30 rfl ?_
    refine P_iload_n d_MD_doCrossBy_32 rfl ?_
    refine P_callV (M := M_MD_doCrossBy) (pc := 33) (as := [.int (nI m), .int (nI q), .int (nI c), .int (nI d), .int (nI a)]) (b := 467) d_MD_doCrossBy_33 co_MD_turnBy ok_Model em L_MD_407 im_MD_turnBy se_MD_turnBy (s_MD_turnBy m (by omega) q (by omega) c (by omega) d (by omega) a (by omega) em htp hqs hun r469 r471 hnm e8 hnp e9) rfl ⟨by decide, by decide⟩ ⟨by decide, by decide⟩ (by exact le_b rfl) ?_ _ rfl
    rintro _ u ⟨⟨v4, rfl⟩, eu⟩
    subst u
    show PW _ _ _ _ _ _ (36, [(0, .ref 467), (1, .int (nI m)), (2, .int (nI q)), (3, .int (nI a)), (4, .int (nI b)), (5, .int (nI c)), (6, .int (nI d))], [.int v4], w)
    refine P_aload_n d_MD_doCrossBy_36 rfl ?_
    refine P_iload_n d_MD_doCrossBy_37 rfl ?_
    refine P_iload_n d_MD_doCrossBy_38 rfl ?_
    refine P_iload d_MD_doCrossBy_39 rfl ?_
    refine P_iload d_MD_doCrossBy_41 rfl ?_
    refine P_iload d_MD_doCrossBy_43 rfl ?_
    refine P_callV (M := M_MD_doCrossBy) (pc := 45) (as := [.int (nI m), .int (nI q), .int (nI c), .int (nI d), .int (nI b)]) (b := 467) d_MD_doCrossBy_45 co_MD_turnBy ok_Model em L_MD_407 im_MD_turnBy se_MD_turnBy (s_MD_turnBy m (by omega) q (by omega) c (by omega) d (by omega) b (by omega) em htp hqs hun r469 r471 hnm e8 hnp e9) rfl ⟨by decide, by decide⟩ ⟨by decide, by decide⟩ (by exact le_b rfl) ?_ _ rfl
    rintro _ u ⟨⟨v5, rfl⟩, eu⟩
    subst u
    show PW _ _ _ _ _ _ (48, [(0, .ref 467), (1, .int (nI m)), (2, .int (nI q)), (3, .int (nI a)), (4, .int (nI b)), (5, .int (nI c)), (6, .int (nI d))], [.int v5, .int v4], w)
    refine P_icmp_eq 55 d_MD_doCrossBy_48 (by decide) (fun c6 => ?_) (fun c6 => ?_)
    · refine P_iconst (v := 0) d_MD_doCrossBy_55 (by decide) ?_
      exact P_zret d_MD_doCrossBy_56 rfl rfl (le_b rfl) (le_b rfl) ⟨⟨false, rfl⟩, rfl⟩
    · refine P_iconst (v := 1) d_MD_doCrossBy_51 (by decide) ?_
      refine P_goto 56 d_MD_doCrossBy_52 (by decide) ?_
      exact P_zret d_MD_doCrossBy_56 rfl rfl (le_b rfl) (le_b rfl) ⟨⟨true, rfl⟩, rfl⟩
theorem s_MD_isFinite {G : pG} {w : pW} (p : Nat) (hp : p < 8) {tp qs un : Nat} {nq ln nl sz at_ pl so vl wo fa fp lf lp th rm um sm : Int32} (em : w.2 467 = mO (nI tp) (nI qs) nq (nI un) ln nl sz at_ pl so vl wo fa fp lf lp th rm um sm) (htp : tp ≤ 900) (hqs : qs ≤ 8) (hun : un ≤ 16) {fn : Nat → Int64} (r471 : w.2 471 = .inl (1, 170, .inr (.inl fn))) {nm np : Nat} (hnm : nm ≤ 16) (e8 : fn 168 = lN nm) (hnp : np ≤ 8) (e9 : fn 169 = lN np) : PM G M_MD_isFinite 1 0 0 [.ref 467, .int (nI p)] w (fun r w' => (∃ v, r = some (.int (bi v))) ∧ w' = w) := by
  refine PM_of pn_MD_isFinite (le_b rfl) ?_
  show PW _ _ _ _ _ _ (0, [(0, .ref 467), (1, .int (nI p))], [], w)
  refine P_aload_n d_MD_isFinite_0 rfl ?_
  refine P_iload_n d_MD_isFinite_1 rfl ?_
  refine P_iconst (v := 2) d_MD_isFinite_2 (by decide) ?_
  refine P_callV (M := M_MD_isFinite) (pc := 3) (as := [.int (nI p), .int 2]) (b := 467) d_MD_isFinite_3 co_MD_pointOf ok_Model em L_MD_250 im_MD_pointOf se_MD_pointOf (s_MD_pointOf p (by omega) 2 (by decide) em htp hqs hun r471 hnm e8 hnp e9) rfl ⟨by decide, by decide⟩ ⟨by decide, by decide⟩ (by exact le_b rfl) ?_ _ rfl
  rintro _ u ⟨⟨v1, rfl⟩, eu⟩
  subst u
  show PW _ _ _ _ _ _ (6, [(0, .ref 467), (1, .int (nI p))], [.long v1], w)
  refine P_lconst (v := 0) d_MD_isFinite_6 (by decide) ?_
  refine P_lcmp d_MD_isFinite_7 ?_
  refine P_if_eq 15 d_MD_isFinite_8 (by decide) (fun c2 => ?_) (fun c2 => ?_)
  · refine P_iconst (v := 0) d_MD_isFinite_15 (by decide) ?_
    exact P_zret d_MD_isFinite_16 rfl rfl (le_b rfl) (le_b rfl) ⟨⟨false, rfl⟩, rfl⟩
  · refine P_iconst (v := 1) d_MD_isFinite_11 (by decide) ?_
    refine P_goto 16 d_MD_isFinite_12 (by decide) ?_
    exact P_zret d_MD_isFinite_16 rfl rfl (le_b rfl) (le_b rfl) ⟨⟨true, rfl⟩, rfl⟩
theorem s_MD_finite {G : pG} {w : pW} {tp qs un : Nat} {nq ln nl sz at_ pl so vl wo fa fp lf lp th rm um sm : Int32} (em : w.2 467 = mO (nI tp) (nI qs) nq (nI un) ln nl sz at_ pl so vl wo fa fp lf lp th rm um sm) (htp : tp ≤ 900) (hqs : qs ≤ 8) (hun : un ≤ 16) {fn : Nat → Int64} (r471 : w.2 471 = .inl (1, 170, .inr (.inl fn))) {nm np : Nat} (hnm : nm ≤ 16) (e8 : fn 168 = lN nm) (hnp : np ≤ 8) (e9 : fn 169 = lN np) : PM G M_MD_finite 1 0 0 [.ref 467] w (fun r w' => (∃ v, r = some (.int v)) ∧ w' = w) := by
  refine PM_of pn_MD_finite (le_b rfl) ?_
  show PW _ _ _ _ _ _ (0, [(0, .ref 467)], [], w)
  refine P_iconst (v := 0) d_MD_finite_0 (by decide) ?_
  refine P_istore_n d_MD_finite_1 (by decide) rfl ?_
  refine P_iconst (v := 0) d_MD_finite_2 (by decide) ?_
  refine P_istore_n d_MD_finite_3 (by decide) rfl ?_
  refine PW_ind (σ := Int32) (np) (fun jj ss => True) (fun jj ss => (4, [(0, .ref 467), (1, .int ss), (2, .int (nI jj))], [], w)) ?_ ?_ 0 (0) (by omega) trivial
  · rintro j1_1 _
    show PW _ _ _ _ _ _ (4, [(0, .ref 467), (1, .int j1_1), (2, .int (nI np))], [], w)
    refine P_iload_n d_MD_finite_4 rfl ?_
    refine P_i2lN (n1 := np) d_MD_finite_5 (by omega) ?_
    refine P_aload_n d_MD_finite_6 rfl ?_
    refine P_getf (i := 7) d_MD_finite_7 ok_Model (by decide) L_MD_21 em rfl ?_
    refine P_sipush (v := 169) d_MD_finite_10 (by decide) ?_
    refine P_lald (j := 169) d_MD_finite_13 r471 ⟨by decide, by decide⟩ (by decide) ?_
    rw [e9]
    show PW _ _ _ _ _ _ (14, [(0, .ref 467), (1, .int j1_1), (2, .int (nI np))], [.long (lN np), .long (lN np)], w)
    refine P_lcmpN (a := np) (b := np) d_MD_finite_14 (by omega) (by omega) ?_
    show PW _ _ _ _ _ _ (15, [(0, .ref 467), (1, .int j1_1), (2, .int (nI np))], [.int (cN np np)], w)
    refine P_if_ge 43 d_MD_finite_15 (by decide) (fun _ => ?_) (fun h => absurd (cN_self np) h)
    refine P_iload_n d_MD_finite_43 rfl ?_
    exact P_iret d_MD_finite_44 rfl (le_b rfl) (le_b rfl) ⟨⟨_, rfl⟩, rfl⟩
  · rintro j1 j1_1 hj1 _ kkj1
    show PW _ _ _ _ _ _ (4, [(0, .ref 467), (1, .int j1_1), (2, .int (nI j1))], [], w)
    refine P_iload_n d_MD_finite_4 rfl ?_
    refine P_i2lN (n1 := j1) d_MD_finite_5 (by omega) ?_
    refine P_aload_n d_MD_finite_6 rfl ?_
    refine P_getf (i := 7) d_MD_finite_7 ok_Model (by decide) L_MD_21 em rfl ?_
    refine P_sipush (v := 169) d_MD_finite_10 (by decide) ?_
    refine P_lald (j := 169) d_MD_finite_13 r471 ⟨by decide, by decide⟩ (by decide) ?_
    rw [e9]
    show PW _ _ _ _ _ _ (14, [(0, .ref 467), (1, .int j1_1), (2, .int (nI j1))], [.long (lN np), .long (lN j1)], w)
    refine P_lcmpN (a := j1) (b := np) d_MD_finite_14 (by omega) (by omega) ?_
    show PW _ _ _ _ _ _ (15, [(0, .ref 467), (1, .int j1_1), (2, .int (nI j1))], [.int (cN j1 np)], w)
    refine P_if_ge 43 d_MD_finite_15 (by decide) (fun h => absurd h (cN_ltF (by omega))) (fun _ => ?_)
    refine P_iload_n d_MD_finite_18 rfl ?_
    refine P_aload_n d_MD_finite_19 rfl ?_
    refine P_iload_n d_MD_finite_20 rfl ?_
    refine P_iconst (v := 2) d_MD_finite_21 (by decide) ?_
    refine P_callV (M := M_MD_finite) (pc := 22) (as := [.int (nI j1), .int 2]) (b := 467) d_MD_finite_22 co_MD_pointOf ok_Model em L_MD_250 im_MD_pointOf se_MD_pointOf (s_MD_pointOf j1 (by omega) 2 (by decide) em htp hqs hun r471 hnm e8 hnp e9) rfl ⟨by decide, by decide⟩ ⟨by decide, by decide⟩ (by exact le_b rfl) ?_ _ rfl
    rintro _ u ⟨⟨v2, rfl⟩, eu⟩
    subst u
    show PW _ _ _ _ _ _ (25, [(0, .ref 467), (1, .int j1_1), (2, .int (nI j1))], [.long v2, .int j1_1], w)
    refine P_lconst (v := 0) d_MD_finite_25 (by decide) ?_
    refine P_lcmp d_MD_finite_26 ?_
    refine P_if_eq 34 d_MD_finite_27 (by decide) (fun c3 => ?_) (fun c3 => ?_)
    · refine P_iconst (v := 0) d_MD_finite_34 (by decide) ?_
      refine P_iadd d_MD_finite_35 ?_
      refine P_istore_n d_MD_finite_36 (by decide) rfl ?_
      refine P_iinc (v := nI (j1 + 1)) d_MD_finite_37 (by decide) rfl (nI_add j1 1) rfl ?_
      refine P_goto 4 d_MD_finite_40 (by decide) ?_
      exact kkj1 (j1_1 + 0) trivial
    · refine P_iconst (v := 1) d_MD_finite_30 (by decide) ?_
      refine P_goto 35 d_MD_finite_31 (by decide) ?_
      refine P_iadd d_MD_finite_35 ?_
      refine P_istore_n d_MD_finite_36 (by decide) rfl ?_
      refine P_iinc (v := nI (j1 + 1)) d_MD_finite_37 (by decide) rfl (nI_add j1 1) rfl ?_
      refine P_goto 4 d_MD_finite_40 (by decide) ?_
      exact kkj1 (j1_1 + 1) trivial
theorem s_MD_sizeOf {G : pG} {w : pW} (m : Nat) (hm : m < 16) {tp qs un : Nat} {nq ln nl sz at_ pl so vl wo fa fp lf lp th rm um sm : Int32} (em : w.2 467 = mO (nI tp) (nI qs) nq (nI un) ln nl sz at_ pl so vl wo fa fp lf lp th rm um sm) (htp : tp ≤ 900) (hqs : qs ≤ 8) (hun : un ≤ 16) {fn : Nat → Int64} (r471 : w.2 471 = .inl (1, 170, .inr (.inl fn))) {nm np : Nat} (hnm : nm ≤ 16) (e8 : fn 168 = lN nm) (hnp : np ≤ 8) (e9 : fn 169 = lN np) : PM G M_MD_sizeOf 1 0 0 [.ref 467, .int (nI m)] w (fun r w' => (∃ v, r = some (.int v)) ∧ w' = w) := by
  refine PM_of pn_MD_sizeOf (le_b rfl) ?_
  show PW _ _ _ _ _ _ (0, [(0, .ref 467), (1, .int (nI m))], [], w)
  refine P_lconst (v := 0) d_MD_sizeOf_0 (by decide) ?_
  refine P_lstore_n d_MD_sizeOf_1 (by decide) rfl ?_
  refine P_iconst (v := 0) d_MD_sizeOf_2 (by decide) ?_
  refine P_istore d_MD_sizeOf_3 (by decide) rfl ?_
  refine PW_ind (σ := Int64) (9) (fun jj ss => True) (fun jj ss => (5, [(0, .ref 467), (1, .int (nI m)), (2, .long ss), (4, .int (nI jj))], [], w)) ?_ ?_ 0 (0) (by omega) trivial
  · rintro j1_2 _
    show PW _ _ _ _ _ _ (5, [(0, .ref 467), (1, .int (nI m)), (2, .long j1_2), (4, .int 9)], [], w)
    refine P_iload d_MD_sizeOf_5 rfl ?_
    refine P_bipush (v := 9) d_MD_sizeOf_7 (by decide) ?_
    refine P_icmp_ge 38 d_MD_sizeOf_9 (by decide) (fun _ => ?_) (fun h => absurd (by decide) h)
    refine P_lload_n d_MD_sizeOf_38 rfl ?_
    refine P_l2i d_MD_sizeOf_39 ?_
    exact P_iret d_MD_sizeOf_40 rfl (le_b rfl) (le_b rfl) ⟨⟨_, rfl⟩, rfl⟩
  · rintro j1 j1_2 hj1 _ kkj1
    show PW _ _ _ _ _ _ (5, [(0, .ref 467), (1, .int (nI m)), (2, .long j1_2), (4, .int (nI j1))], [], w)
    refine P_iload d_MD_sizeOf_5 rfl ?_
    refine P_bipush (v := 9) d_MD_sizeOf_7 (by decide) ?_
    refine P_icmp_ge 38 d_MD_sizeOf_9 (by decide) (fun h => absurd h (nI_geF (a := j1) (b := 9) (by omega) (by omega))) (fun _ => ?_)
    refine P_lload_n d_MD_sizeOf_12 rfl ?_
    refine P_aload_n d_MD_sizeOf_13 rfl ?_
    refine P_getf (i := 7) d_MD_sizeOf_14 ok_Model (by decide) L_MD_21 em rfl ?_
    refine P_bipush (v := 9) d_MD_sizeOf_17 (by decide) ?_
    refine P_iload_n d_MD_sizeOf_19 rfl ?_
    refine P_imulN (a := 9) (b := m) d_MD_sizeOf_20 ?_
    show PW _ _ _ _ _ _ (21, [(0, .ref 467), (1, .int (nI m)), (2, .long j1_2), (4, .int (nI j1))], [.int (nI (9 * m)), .ref 471, .long j1_2], w)
    refine P_iload d_MD_sizeOf_21 rfl ?_
    refine P_iaddN (a := (9 * m)) (b := j1) d_MD_sizeOf_23 ?_
    show PW _ _ _ _ _ _ (24, [(0, .ref 467), (1, .int (nI m)), (2, .long j1_2), (4, .int (nI j1))], [.int (nI ((9 * m) + j1)), .ref 471, .long j1_2], w)
    refine P_lald (j := (9 * m) + j1) d_MD_sizeOf_24 r471 (ix_nI (by omega)) (by omega) ?_
    refine P_mabslZ d_MD_sizeOf_25 L_MD_210 st_abs in_Math cd_abs ⟨by decide, by decide, by decide, by decide⟩ (by exact le_b rfl) (fun zz2 => ?_)
    show PW _ _ _ _ _ _ (28, [(0, .ref 467), (1, .int (nI m)), (2, .long j1_2), (4, .int (nI j1))], [.long zz2, .long j1_2], w)
    refine P_mmaxlZ d_MD_sizeOf_28 L_MD_374 st_max in_Math cd_max ⟨by decide, by decide, by decide, by decide⟩ (by exact le_b rfl) (fun zz3 => ?_)
    show PW _ _ _ _ _ _ (31, [(0, .ref 467), (1, .int (nI m)), (2, .long j1_2), (4, .int (nI j1))], [.long zz3], w)
    refine P_lstore_n d_MD_sizeOf_31 (by decide) rfl ?_
    refine P_iinc (v := nI (j1 + 1)) d_MD_sizeOf_32 (by decide) rfl (nI_add j1 1) rfl ?_
    refine P_goto 5 d_MD_sizeOf_35 (by decide) ?_
    exact kkj1 (zz3) trivial
theorem s_MD_laysThree {G : pG} {w : pW} (hI : I w) (x : Int64) (y : Int64) (z : Int64) : PM G M_MD_laysThree 3 0 0 [.ref 467, .long x, .long y, .long z] w (fun r w' => r = none ∧ I w' ∧ FrM w w') := by
  refine PM_of pn_MD_laysThree (le_b rfl) ?_
  show PW _ _ _ _ _ _ (0, [(0, .ref 467), (1, .long x), (3, .long y), (5, .long z)], [], w)
  obtain ⟨tp, qs, un, nq, ln, nl, sz, at_, pl, so, vl, wo, fa, fp, lf, lp, th, rm, um, sm, htp, hqs, hun, em⟩ := hI.md
  obtain ⟨fn, nm, np, en, hnm, e8, hnp, e9⟩ := hI.now
  refine P_aload_n d_MD_laysThree_0 rfl ?_
  refine P_getf (i := 28) d_MD_laysThree_1 ok_Model (by decide) L_MD_50 em rfl ?_
  refine P_iconst (v := 0) d_MD_laysThree_4 (by decide) ?_
  refine P_lload_n d_MD_laysThree_5 rfl ?_
  obtain ⟨f1, f1e⟩ := hI.row (r := 479) (by decide) kc_479
  refine P_lastG (j := 0) d_MD_laysThree_6 f1e (by decide) ⟨by decide, by decide⟩ (by decide) (fun w2 e2 s2 n2 z2 => ?_)
  generalize vp_updL _ _ _ = g3 at e2 s2
  have hI2 : I w2 := hI.setL e2 kc_479
  have hF2 : Fr SN w w2 := Fr.set Fr.rf e2 (SN_t (by omega))
  show PW _ _ _ _ _ _ (7, [(0, .ref 467), (1, .long x), (3, .long y), (5, .long z)], [], w2)
  refine P_aload_n d_MD_laysThree_7 rfl ?_
  refine P_getf (i := 28) d_MD_laysThree_8 ok_Model (by decide) L_MD_50 ((w_n e2 _ (by decide)).trans em) rfl ?_
  refine P_iconst (v := 1) d_MD_laysThree_11 (by decide) ?_
  refine P_lload_n d_MD_laysThree_12 rfl ?_
  refine P_lastG (j := 1) d_MD_laysThree_13 s2 (by decide) ⟨by decide, by decide⟩ (by decide) (fun w4 e4 s4 n4 z4 => ?_)
  generalize vp_updL _ _ _ = g5 at e4 s4
  have hI4 : I w4 := hI2.setL e4 kc_479
  have hF4 : Fr SN w w4 := Fr.set hF2 e4 (SN_t (by omega))
  show PW _ _ _ _ _ _ (14, [(0, .ref 467), (1, .long x), (3, .long y), (5, .long z)], [], w4)
  refine P_aload_n d_MD_laysThree_14 rfl ?_
  refine P_getf (i := 28) d_MD_laysThree_15 ok_Model (by decide) L_MD_50 ((w_n e4 _ (by decide)).trans ((w_n e2 _ (by decide)).trans em)) rfl ?_
  refine P_iconst (v := 2) d_MD_laysThree_18 (by decide) ?_
  refine P_lload d_MD_laysThree_19 rfl ?_
  refine P_lastG (j := 2) d_MD_laysThree_21 s4 (by decide) ⟨by decide, by decide⟩ (by decide) (fun w6 e6 s6 n6 z6 => ?_)
  generalize vp_updL _ _ _ = g7 at e6 s6
  have hI6 : I w6 := hI4.setL e6 kc_479
  have hF6 : Fr SN w w6 := Fr.set hF4 e6 (SN_t (by omega))
  show PW _ _ _ _ _ _ (22, [(0, .ref 467), (1, .long x), (3, .long y), (5, .long z)], [], w6)
  refine P_aload_n d_MD_laysThree_22 rfl ?_
  refine P_getf (i := 28) d_MD_laysThree_23 ok_Model (by decide) L_MD_50 ((w_n e6 _ (by decide)).trans ((w_n e4 _ (by decide)).trans ((w_n e2 _ (by decide)).trans em))) rfl ?_
  refine P_callS (M := M_MD_laysThree) (pc := 26) (as := [.ref 479]) d_MD_laysThree_26 co_MD_reduces L_MD_220 sm_MD_reduces (v_MD_reduces s6 (by decide) (by decide) (by decide)) rfl ⟨by decide, by decide⟩ ⟨by decide, by decide⟩ (by exact le_b rfl) ?_ _ rfl
  rintro _ w8 ⟨rfl, g8, e8⟩
  have s8 := w_s e8
  have hI8 : I w8 := hI6.setL e8 kc_479
  have hF8 : Fr SN w w8 := Fr.set hF6 e8 (SN_t (by omega))
  show PW _ _ _ _ _ _ (29, [(0, .ref 467), (1, .long x), (3, .long y), (5, .long z)], [], w8)
  exact P_vret d_MD_laysThree_29 rfl (le_b rfl) (le_b rfl) ⟨rfl, hI8, FrM.of hF8 ⟨_, _, _, _, em⟩ ⟨_, _, _, _, ((w_n e8 _ (by decide)).trans ((w_n e6 _ (by decide)).trans ((w_n e4 _ (by decide)).trans ((w_n e2 _ (by decide)).trans em))))⟩⟩
theorem s_MD_takes {G : pG} {w : pW} (hI : I w) {o : Nat} (hlo : o < 487) (hko : Kc o = (1, 9, 0)) (hso : 476 ≤ o ∧ o < 486) (m : Nat) (hm : m < 16) : PM G M_MD_takes 0 0 0 [.ref 467, .ref o, .int (nI m)] w (fun r w' => r = none ∧ I w' ∧ FrM w w') := by
  refine PM_of pn_MD_takes (le_b rfl) ?_
  show PW _ _ _ _ _ _ (0, [(0, .ref 467), (1, .ref o), (2, .int (nI m))], [], w)
  obtain ⟨tp, qs, un, nq, ln, nl, sz, at_, pl, so, vl, wo, fa, fp, lf, lp, th, rm, um, sm, htp, hqs, hun, em⟩ := hI.md
  obtain ⟨fn, nm, np, en, hnm, e8, hnp, e9⟩ := hI.now
  refine P_iconst (v := 0) d_MD_takes_0 (by decide) ?_
  refine P_istore_n d_MD_takes_1 (by decide) rfl ?_
  refine PW_ind (σ := pW) (9) (fun jj ss => I (ss) ∧ Fr SN w (ss) ∧ MS (nI tp) (nI qs) nq (nI un) ln nl sz at_ pl so vl wo fa fp lf lp ((ss).2 467)) (fun jj ss => (2, [(0, .ref 467), (1, .ref o), (2, .int (nI m)), (3, .int (nI jj))], [], ss)) ?_ ?_ 0 (w) (by omega) ⟨hI, Fr.rf, ⟨_, _, _, _, em⟩⟩
  · rintro uj1 ⟨hIj1, hFj1, ⟨thj1, rmj1, umj1, smj1, emj1⟩⟩
    show PW _ _ _ _ _ _ (2, [(0, .ref 467), (1, .ref o), (2, .int (nI m)), (3, .int 9)], [], uj1)
    refine P_iload_n d_MD_takes_2 rfl ?_
    refine P_bipush (v := 9) d_MD_takes_3 (by decide) ?_
    refine P_icmp_ge 28 d_MD_takes_5 (by decide) (fun _ => ?_) (fun h => absurd (by decide) h)
    exact P_vret d_MD_takes_28 rfl (le_b rfl) (le_b rfl) ⟨rfl, hIj1, FrM.of hFj1 ⟨_, _, _, _, em⟩ ⟨_, _, _, _, emj1⟩⟩
  · rintro j1 uj1 hj1 ⟨hIj1, hFj1, ⟨thj1, rmj1, umj1, smj1, emj1⟩⟩ kkj1
    show PW _ _ _ _ _ _ (2, [(0, .ref 467), (1, .ref o), (2, .int (nI m)), (3, .int (nI j1))], [], uj1)
    refine P_iload_n d_MD_takes_2 rfl ?_
    refine P_bipush (v := 9) d_MD_takes_3 (by decide) ?_
    refine P_icmp_ge 28 d_MD_takes_5 (by decide) (fun h => absurd h (nI_geF (a := j1) (b := 9) (by omega) (by omega))) (fun _ => ?_)
    refine P_aload_n d_MD_takes_8 rfl ?_
    refine P_iload_n d_MD_takes_9 rfl ?_
    refine P_aload_n d_MD_takes_10 rfl ?_
    refine P_getf (i := 7) d_MD_takes_11 ok_Model (by decide) L_MD_21 emj1 rfl ?_
    refine P_bipush (v := 9) d_MD_takes_14 (by decide) ?_
    refine P_iload_n d_MD_takes_16 rfl ?_
    refine P_imulN (a := 9) (b := m) d_MD_takes_17 ?_
    show PW _ _ _ _ _ _ (18, [(0, .ref 467), (1, .ref o), (2, .int (nI m)), (3, .int (nI j1))], [.int (nI (9 * m)), .ref 471, .int (nI j1), .ref o], uj1)
    refine P_iload_n d_MD_takes_18 rfl ?_
    refine P_iaddN (a := (9 * m)) (b := j1) d_MD_takes_19 ?_
    show PW _ _ _ _ _ _ (20, [(0, .ref 467), (1, .ref o), (2, .int (nI m)), (3, .int (nI j1))], [.int (nI ((9 * m) + j1)), .ref 471, .int (nI j1), .ref o], uj1)
    refine P_lald (j := (9 * m) + j1) d_MD_takes_20 ((hFj1.2 _ (SN_f (by omega))).trans en) (ix_nI (by omega)) (by omega) ?_
    obtain ⟨f2, f2e⟩ := hIj1.row (r := o) (by omega) hko
    refine P_lastG (j := j1) d_MD_takes_21 f2e (by omega) (ix_nI (by omega)) (by omega) (fun w3 e3 s3 n3 z3 => ?_)
    generalize vp_updL _ _ _ = g4 at e3 s3
    have hI3 : I w3 := hIj1.setL e3 hko
    have hF3 : Fr SN w w3 := Fr.set hFj1 e3 (SN_t (by omega))
    show PW _ _ _ _ _ _ (22, [(0, .ref 467), (1, .ref o), (2, .int (nI m)), (3, .int (nI j1))], [], w3)
    refine P_iinc (v := nI (j1 + 1)) d_MD_takes_22 (by decide) rfl (nI_add j1 1) rfl ?_
    refine P_goto 2 d_MD_takes_25 (by decide) ?_
    exact kkj1 (w3) ⟨hI3, hF3, ⟨_, _, _, _, ((w_n e3 _ (by omega)).trans emj1)⟩⟩
theorem s_MD_nothing {G : pG} {w : pW} (hI : I w) : PM G M_MD_nothing 0 0 0 [.ref 467] w (fun r w' => r = none ∧ I w' ∧ FrM w w') := by
  refine PM_of pn_MD_nothing (le_b rfl) ?_
  show PW _ _ _ _ _ _ (0, [(0, .ref 467)], [], w)
  obtain ⟨tp, qs, un, nq, ln, nl, sz, at_, pl, so, vl, wo, fa, fp, lf, lp, th, rm, um, sm, htp, hqs, hun, em⟩ := hI.md
  obtain ⟨fn, nm, np, en, hnm, e8, hnp, e9⟩ := hI.now
  refine P_iconst (v := 0) d_MD_nothing_0 (by decide) ?_
  refine P_istore_n d_MD_nothing_1 (by decide) rfl ?_
  refine PW_ind (σ := pW) (9) (fun jj ss => I (ss) ∧ Fr SN w (ss) ∧ MS (nI tp) (nI qs) nq (nI un) ln nl sz at_ pl so vl wo fa fp lf lp ((ss).2 467)) (fun jj ss => (2, [(0, .ref 467), (1, .int (nI jj))], [], ss)) ?_ ?_ 0 (w) (by omega) ⟨hI, Fr.rf, ⟨_, _, _, _, em⟩⟩
  · rintro uj1 ⟨hIj1, hFj1, ⟨thj1, rmj1, umj1, smj1, emj1⟩⟩
    show PW _ _ _ _ _ _ (2, [(0, .ref 467), (1, .int 9)], [], uj1)
    refine P_iload_n d_MD_nothing_2 rfl ?_
    refine P_bipush (v := 9) d_MD_nothing_3 (by decide) ?_
    refine P_icmp_ge 31 d_MD_nothing_5 (by decide) (fun _ => ?_) (fun h => absurd (by decide) h)
    exact P_vret d_MD_nothing_31 rfl (le_b rfl) (le_b rfl) ⟨rfl, hIj1, FrM.of hFj1 ⟨_, _, _, _, em⟩ ⟨_, _, _, _, emj1⟩⟩
  · rintro j1 uj1 hj1 ⟨hIj1, hFj1, ⟨thj1, rmj1, umj1, smj1, emj1⟩⟩ kkj1
    show PW _ _ _ _ _ _ (2, [(0, .ref 467), (1, .int (nI j1))], [], uj1)
    refine P_iload_n d_MD_nothing_2 rfl ?_
    refine P_bipush (v := 9) d_MD_nothing_3 (by decide) ?_
    refine P_icmp_ge 31 d_MD_nothing_5 (by decide) (fun h => absurd h (nI_geF (a := j1) (b := 9) (by omega) (by omega))) (fun _ => ?_)
    refine P_aload_n d_MD_nothing_8 rfl ?_
    refine P_getf (i := 25) d_MD_nothing_9 ok_Model (by decide) L_MD_41 emj1 rfl ?_
    refine P_iload_n d_MD_nothing_12 rfl ?_
    refine P_iload_n d_MD_nothing_13 rfl ?_
    refine P_iconst (v := 4) d_MD_nothing_14 (by decide) ?_
    refine P_iremN (a := j1) (b := 4) d_MD_nothing_15 (by omega) (by omega) (by omega) ?_
    show PW _ _ _ _ _ _ (16, [(0, .ref 467), (1, .int (nI j1))], [.int (nI (j1 % 4)), .int (nI j1), .ref 476], uj1)
    refine P_if_ne 23 d_MD_nothing_16 (by decide) (fun c2 => ?_) (fun c2 => ?_)
    · have ic2 : (j1 % 4) ≠ 0 := fun q => c2 (congrArg nI q)
      refine P_lconst (v := 0) d_MD_nothing_23 (by decide) ?_
      obtain ⟨f3, f3e⟩ := hIj1.row (r := 476) (by decide) kc_476
      refine P_lastG (j := j1) d_MD_nothing_24 f3e (by decide) (ix_nI (by omega)) (by omega) (fun w4 e4 s4 n4 z4 => ?_)
      generalize vp_updL _ _ _ = g5 at e4 s4
      have hI4 : I w4 := hIj1.setL e4 kc_476
      have hF4 : Fr SN w w4 := Fr.set hFj1 e4 (SN_t (by omega))
      show PW _ _ _ _ _ _ (25, [(0, .ref 467), (1, .int (nI j1))], [], w4)
      refine P_iinc (v := nI (j1 + 1)) d_MD_nothing_25 (by decide) rfl (nI_add j1 1) rfl ?_
      refine P_goto 2 d_MD_nothing_28 (by decide) ?_
      exact kkj1 (w4) ⟨hI4, hF4, ⟨_, _, _, _, ((w_n e4 _ (by decide)).trans emj1)⟩⟩
    · have ic2 : (j1 % 4) = 0 := (nI_eq (by omega) (by omega)).mp c2
      refine P_lconst (v := 1) d_MD_nothing_19 (by decide) ?_
      refine P_goto 24 d_MD_nothing_20 (by decide) ?_
      obtain ⟨f6, f6e⟩ := hIj1.row (r := 476) (by decide) kc_476
      refine P_lastG (j := j1) d_MD_nothing_24 f6e (by decide) (ix_nI (by omega)) (by omega) (fun w7 e7 s7 n7 z7 => ?_)
      generalize vp_updL _ _ _ = g8 at e7 s7
      have hI7 : I w7 := hIj1.setL e7 kc_476
      have hF7 : Fr SN w w7 := Fr.set hFj1 e7 (SN_t (by omega))
      show PW _ _ _ _ _ _ (25, [(0, .ref 467), (1, .int (nI j1))], [], w7)
      refine P_iinc (v := nI (j1 + 1)) d_MD_nothing_25 (by decide) rfl (nI_add j1 1) rfl ?_
      refine P_goto 2 d_MD_nothing_28 (by decide) ?_
      exact kkj1 (w7) ⟨hI7, hF7, ⟨_, _, _, _, ((w_n e7 _ (by decide)).trans emj1)⟩⟩
theorem s_MD_laysMap {G : pG} {w : pW} (hI : I w) {t K : Nat} (hlt : t < 487) (hkt : Kc t = (0, K, 0)) (hK : K < 1000000) (q : Nat) (hq : q < 8) (s : Nat) (hs : s < 8) (hqk : 8 * q + 8 ≤ K) (hsk : 8 * s + 8 ≤ K) (ht : t < 476 ∨ t = 481) : PM G M_MD_laysMap 3 0 0 [.ref 467, .ref t, .int (nI q), .int (nI s)] w (fun r w' => r = none ∧ I w' ∧ FrM w w') := by
  refine PM_of pn_MD_laysMap (le_b rfl) ?_
  show PW _ _ _ _ _ _ (0, [(0, .ref 467), (1, .ref t), (2, .int (nI q)), (3, .int (nI s))], [], w)
  obtain ⟨tp, qs, un, nq, ln, nl, sz, at_, pl, so, vl, wo, fa, fp, lf, lp, th, rm, um, sm, htp, hqs, hun, em⟩ := hI.md
  obtain ⟨fn, nm, np, en, hnm, e8, hnp, e9⟩ := hI.now
  refine P_aload_n d_MD_laysMap_0 rfl ?_
  refine P_getf (i := 26) d_MD_laysMap_1 ok_Model (by decide) L_MD_44 em rfl ?_
  refine P_aload_n d_MD_laysMap_4 rfl ?_
  refine P_iload_n d_MD_laysMap_5 rfl ?_
  obtain ⟨f1, f1e⟩ := hI.row (r := 477) (by decide) kc_477
  obtain ⟨f2, f2e⟩ := hI.ints (r := t) hlt hkt
  refine P_callS (M := M_MD_laysMap) (pc := 6) (as := [.ref 477, .ref t, .int (nI q)]) d_MD_laysMap_6 co_MD_basis L_MD_226 sm_MD_basis (s_MD_basis f1e (by decide) f2e hK q (by omega) (by omega) (by omega)) rfl ⟨by decide, by decide⟩ ⟨by decide, by decide⟩ (by exact le_b rfl) ?_ _ rfl
  rintro _ w3 ⟨rfl, g3, e3⟩
  have s3 := w_s e3
  have hI3 : I w3 := hI.setL e3 kc_477
  have hF3 : Fr SN w w3 := Fr.set Fr.rf e3 (SN_t (by omega))
  show PW _ _ _ _ _ _ (9, [(0, .ref 467), (1, .ref t), (2, .int (nI q)), (3, .int (nI s))], [], w3)
  refine P_aload_n d_MD_laysMap_9 rfl ?_
  refine P_getf (i := 26) d_MD_laysMap_10 ok_Model (by decide) L_MD_44 ((w_n e3 _ (by decide)).trans em) rfl ?_
  refine P_callS (M := M_MD_laysMap) (pc := 13) (as := [.ref 477]) d_MD_laysMap_13 co_MD_reduces L_MD_220 sm_MD_reduces (v_MD_reduces s3 (by decide) (by decide) (by decide)) rfl ⟨by decide, by decide⟩ ⟨by decide, by decide⟩ (by exact le_b rfl) ?_ _ rfl
  rintro _ w4 ⟨rfl, g4, e4⟩
  have s4 := w_s e4
  have hI4 : I w4 := hI3.setL e4 kc_477
  have hF4 : Fr SN w w4 := Fr.set hF3 e4 (SN_t (by omega))
  show PW _ _ _ _ _ _ (16, [(0, .ref 467), (1, .ref t), (2, .int (nI q)), (3, .int (nI s))], [], w4)
  refine P_aload_n d_MD_laysMap_16 rfl ?_
  refine P_getf (i := 27) d_MD_laysMap_17 ok_Model (by decide) L_MD_47 ((w_n e4 _ (by decide)).trans ((w_n e3 _ (by decide)).trans em)) rfl ?_
  refine P_aload_n d_MD_laysMap_20 rfl ?_
  refine P_getf (i := 26) d_MD_laysMap_21 ok_Model (by decide) L_MD_44 ((w_n e4 _ (by decide)).trans ((w_n e3 _ (by decide)).trans em)) rfl ?_
  obtain ⟨f5, f5e⟩ := hI4.row (r := 478) (by decide) kc_478
  refine P_callS (M := M_MD_laysMap) (pc := 24) (as := [.ref 478, .ref 477]) d_MD_laysMap_24 co_MD_turnsRound L_MD_230 sm_MD_turnsRound (s_MD_turnsRound f5e (by decide) s4 (by decide)) rfl ⟨by decide, by decide⟩ ⟨by decide, by decide⟩ (by exact le_b rfl) ?_ _ rfl
  rintro _ w6 ⟨rfl, g6, e6⟩
  have s6 := w_s e6
  have hI6 : I w6 := hI4.setL e6 kc_478
  have hF6 : Fr SN w w6 := Fr.set hF4 e6 (SN_t (by omega))
  show PW _ _ _ _ _ _ (27, [(0, .ref 467), (1, .ref t), (2, .int (nI q)), (3, .int (nI s))], [], w6)
  refine P_aload_n d_MD_laysMap_27 rfl ?_
  refine P_getf (i := 27) d_MD_laysMap_28 ok_Model (by decide) L_MD_47 ((w_n e6 _ (by decide)).trans ((w_n e4 _ (by decide)).trans ((w_n e3 _ (by decide)).trans em))) rfl ?_
  refine P_callS (M := M_MD_laysMap) (pc := 31) (as := [.ref 478]) d_MD_laysMap_31 co_MD_reduces L_MD_220 sm_MD_reduces (v_MD_reduces s6 (by decide) (by decide) (by decide)) rfl ⟨by decide, by decide⟩ ⟨by decide, by decide⟩ (by exact le_b rfl) ?_ _ rfl
  rintro _ w7 ⟨rfl, g7, e7⟩
  have s7 := w_s e7
  have hI7 : I w7 := hI6.setL e7 kc_478
  have hF7 : Fr SN w w7 := Fr.set hF6 e7 (SN_t (by omega))
  show PW _ _ _ _ _ _ (34, [(0, .ref 467), (1, .ref t), (2, .int (nI q)), (3, .int (nI s))], [], w7)
  refine P_aload_n d_MD_laysMap_34 rfl ?_
  refine P_getf (i := 26) d_MD_laysMap_35 ok_Model (by decide) L_MD_44 ((w_n e7 _ (by decide)).trans ((w_n e6 _ (by decide)).trans ((w_n e4 _ (by decide)).trans ((w_n e3 _ (by decide)).trans em)))) rfl ?_
  refine P_aload_n d_MD_laysMap_38 rfl ?_
  refine P_iload_n d_MD_laysMap_39 rfl ?_
  obtain ⟨f8, f8e⟩ := hI7.row (r := 477) (by decide) kc_477
  obtain ⟨f9, f9e⟩ := hI7.ints (r := t) hlt hkt
  refine P_callS (M := M_MD_laysMap) (pc := 40) (as := [.ref 477, .ref t, .int (nI s)]) d_MD_laysMap_40 co_MD_basis L_MD_226 sm_MD_basis (s_MD_basis f8e (by decide) f9e hK s (by omega) (by omega) (by omega)) rfl ⟨by decide, by decide⟩ ⟨by decide, by decide⟩ (by exact le_b rfl) ?_ _ rfl
  rintro _ w10 ⟨rfl, g10, e10⟩
  have s10 := w_s e10
  have hI10 : I w10 := hI7.setL e10 kc_477
  have hF10 : Fr SN w w10 := Fr.set hF7 e10 (SN_t (by omega))
  show PW _ _ _ _ _ _ (43, [(0, .ref 467), (1, .ref t), (2, .int (nI q)), (3, .int (nI s))], [], w10)
  refine P_aload_n d_MD_laysMap_43 rfl ?_
  refine P_getf (i := 25) d_MD_laysMap_44 ok_Model (by decide) L_MD_41 ((w_n e10 _ (by decide)).trans ((w_n e7 _ (by decide)).trans ((w_n e6 _ (by decide)).trans ((w_n e4 _ (by decide)).trans ((w_n e3 _ (by decide)).trans em))))) rfl ?_
  refine P_aload_n d_MD_laysMap_47 rfl ?_
  refine P_getf (i := 26) d_MD_laysMap_48 ok_Model (by decide) L_MD_44 ((w_n e10 _ (by decide)).trans ((w_n e7 _ (by decide)).trans ((w_n e6 _ (by decide)).trans ((w_n e4 _ (by decide)).trans ((w_n e3 _ (by decide)).trans em))))) rfl ?_
  refine P_aload_n d_MD_laysMap_51 rfl ?_
  refine P_getf (i := 27) d_MD_laysMap_52 ok_Model (by decide) L_MD_47 ((w_n e10 _ (by decide)).trans ((w_n e7 _ (by decide)).trans ((w_n e6 _ (by decide)).trans ((w_n e4 _ (by decide)).trans ((w_n e3 _ (by decide)).trans em))))) rfl ?_
  obtain ⟨f11, f11e⟩ := hI10.row (r := 476) (by decide) kc_476
  obtain ⟨f12, f12e⟩ := hI10.row (r := 478) (by decide) kc_478
  refine P_callS (M := M_MD_laysMap) (pc := 55) (as := [.ref 476, .ref 477, .ref 478]) d_MD_laysMap_55 co_MD_multiplies L_MD_234 sm_MD_multiplies (s_MD_multiplies f11e (by decide) s10 f12e (by decide) (by decide)) rfl ⟨by decide, by decide⟩ ⟨by decide, by decide⟩ (by exact le_b rfl) ?_ _ rfl
  rintro _ w13 ⟨rfl, g13, e13⟩
  have s13 := w_s e13
  have hI13 : I w13 := hI10.setL e13 kc_476
  have hF13 : Fr SN w w13 := Fr.set hF10 e13 (SN_t (by omega))
  show PW _ _ _ _ _ _ (58, [(0, .ref 467), (1, .ref t), (2, .int (nI q)), (3, .int (nI s))], [], w13)
  refine P_aload_n d_MD_laysMap_58 rfl ?_
  refine P_getf (i := 25) d_MD_laysMap_59 ok_Model (by decide) L_MD_41 ((w_n e13 _ (by decide)).trans ((w_n e10 _ (by decide)).trans ((w_n e7 _ (by decide)).trans ((w_n e6 _ (by decide)).trans ((w_n e4 _ (by decide)).trans ((w_n e3 _ (by decide)).trans em)))))) rfl ?_
  refine P_callS (M := M_MD_laysMap) (pc := 62) (as := [.ref 476]) d_MD_laysMap_62 co_MD_reduces L_MD_220 sm_MD_reduces (v_MD_reduces s13 (by decide) (by decide) (by decide)) rfl ⟨by decide, by decide⟩ ⟨by decide, by decide⟩ (by exact le_b rfl) ?_ _ rfl
  rintro _ w14 ⟨rfl, g14, e14⟩
  have s14 := w_s e14
  have hI14 : I w14 := hI13.setL e14 kc_476
  have hF14 : Fr SN w w14 := Fr.set hF13 e14 (SN_t (by omega))
  show PW _ _ _ _ _ _ (65, [(0, .ref 467), (1, .ref t), (2, .int (nI q)), (3, .int (nI s))], [], w14)
  exact P_vret d_MD_laysMap_65 rfl (le_b rfl) (le_b rfl) ⟨rfl, hI14, FrM.of hF14 ⟨_, _, _, _, em⟩ ⟨_, _, _, _, ((w_n e14 _ (by decide)).trans ((w_n e13 _ (by decide)).trans ((w_n e10 _ (by decide)).trans ((w_n e7 _ (by decide)).trans ((w_n e6 _ (by decide)).trans ((w_n e4 _ (by decide)).trans ((w_n e3 _ (by decide)).trans em)))))))⟩⟩
theorem s_MD_laysProduct {G : pG} {w : pW} (hI : I w) (a : Nat) (ha : a < 16) (b : Nat) (hb : b < 16) : PM G M_MD_laysProduct 3 0 0 [.ref 467, .int (nI a), .int (nI b)] w (fun r w' => r = none ∧ I w' ∧ FrM w w') := by
  refine PM_of pn_MD_laysProduct (le_b rfl) ?_
  show PW _ _ _ _ _ _ (0, [(0, .ref 467), (1, .int (nI a)), (2, .int (nI b))], [], w)
  obtain ⟨tp, qs, un, nq, ln, nl, sz, at_, pl, so, vl, wo, fa, fp, lf, lp, th, rm, um, sm, htp, hqs, hun, em⟩ := hI.md
  obtain ⟨fn, nm, np, en, hnm, e8, hnp, e9⟩ := hI.now
  refine P_aload_n d_MD_laysProduct_0 rfl ?_
  refine P_aload_n d_MD_laysProduct_1 rfl ?_
  refine P_getf (i := 26) d_MD_laysProduct_2 ok_Model (by decide) L_MD_44 em rfl ?_
  refine P_iload_n d_MD_laysProduct_5 rfl ?_
  refine P_callV (M := M_MD_laysProduct) (pc := 6) (as := [.ref 477, .int (nI a)]) (b := 467) d_MD_laysProduct_6 co_MD_takes ok_Model em L_MD_274 im_MD_takes se_MD_takes (s_MD_takes hI (by decide) kc_477 (by omega) a (by omega)) rfl ⟨by decide, by decide⟩ ⟨by decide, by decide⟩ (by exact le_b rfl) ?_ _ rfl
  rintro _ w1 ⟨rfl, hI1, hG1⟩
  have hF1 : Fr SN w w1 := Fr.tr Fr.rf hG1.1
  obtain ⟨th1, rm1, um1, sm1, em1⟩ := hG1.2 (nI tp) (nI qs) nq (nI un) ln nl sz at_ pl so vl wo fa fp lf lp ⟨_, _, _, _, em⟩
  show PW _ _ _ _ _ _ (9, [(0, .ref 467), (1, .int (nI a)), (2, .int (nI b))], [], w1)
  refine P_aload_n d_MD_laysProduct_9 rfl ?_
  refine P_aload_n d_MD_laysProduct_10 rfl ?_
  refine P_getf (i := 27) d_MD_laysProduct_11 ok_Model (by decide) L_MD_47 em1 rfl ?_
  refine P_iload_n d_MD_laysProduct_14 rfl ?_
  refine P_callV (M := M_MD_laysProduct) (pc := 15) (as := [.ref 478, .int (nI b)]) (b := 467) d_MD_laysProduct_15 co_MD_takes ok_Model em1 L_MD_274 im_MD_takes se_MD_takes (s_MD_takes hI1 (by decide) kc_478 (by omega) b (by omega)) rfl ⟨by decide, by decide⟩ ⟨by decide, by decide⟩ (by exact le_b rfl) ?_ _ rfl
  rintro _ w2 ⟨rfl, hI2, hG2⟩
  have hF2 : Fr SN w w2 := Fr.tr hF1 hG2.1
  obtain ⟨th2, rm2, um2, sm2, em2⟩ := hG2.2 (nI tp) (nI qs) nq (nI un) ln nl sz at_ pl so vl wo fa fp lf lp ⟨_, _, _, _, em1⟩
  show PW _ _ _ _ _ _ (18, [(0, .ref 467), (1, .int (nI a)), (2, .int (nI b))], [], w2)
  refine P_aload_n d_MD_laysProduct_18 rfl ?_
  refine P_getf (i := 25) d_MD_laysProduct_19 ok_Model (by decide) L_MD_41 em2 rfl ?_
  refine P_aload_n d_MD_laysProduct_22 rfl ?_
  refine P_getf (i := 26) d_MD_laysProduct_23 ok_Model (by decide) L_MD_44 em2 rfl ?_
  refine P_aload_n d_MD_laysProduct_26 rfl ?_
  refine P_getf (i := 27) d_MD_laysProduct_27 ok_Model (by decide) L_MD_47 em2 rfl ?_
  obtain ⟨f3, f3e⟩ := hI2.row (r := 476) (by decide) kc_476
  obtain ⟨f4, f4e⟩ := hI2.row (r := 477) (by decide) kc_477
  obtain ⟨f5, f5e⟩ := hI2.row (r := 478) (by decide) kc_478
  refine P_callS (M := M_MD_laysProduct) (pc := 30) (as := [.ref 476, .ref 477, .ref 478]) d_MD_laysProduct_30 co_MD_multiplies L_MD_234 sm_MD_multiplies (s_MD_multiplies f3e (by decide) f4e f5e (by decide) (by decide)) rfl ⟨by decide, by decide⟩ ⟨by decide, by decide⟩ (by exact le_b rfl) ?_ _ rfl
  rintro _ w6 ⟨rfl, g6, e6⟩
  have s6 := w_s e6
  have hI6 : I w6 := hI2.setL e6 kc_476
  have hF6 : Fr SN w w6 := Fr.set hF2 e6 (SN_t (by omega))
  show PW _ _ _ _ _ _ (33, [(0, .ref 467), (1, .int (nI a)), (2, .int (nI b))], [], w6)
  refine P_aload_n d_MD_laysProduct_33 rfl ?_
  refine P_getf (i := 25) d_MD_laysProduct_34 ok_Model (by decide) L_MD_41 ((w_n e6 _ (by decide)).trans em2) rfl ?_
  refine P_callS (M := M_MD_laysProduct) (pc := 37) (as := [.ref 476]) d_MD_laysProduct_37 co_MD_reduces L_MD_220 sm_MD_reduces (v_MD_reduces s6 (by decide) (by decide) (by decide)) rfl ⟨by decide, by decide⟩ ⟨by decide, by decide⟩ (by exact le_b rfl) ?_ _ rfl
  rintro _ w7 ⟨rfl, g7, e7⟩
  have s7 := w_s e7
  have hI7 : I w7 := hI6.setL e7 kc_476
  have hF7 : Fr SN w w7 := Fr.set hF6 e7 (SN_t (by omega))
  show PW _ _ _ _ _ _ (40, [(0, .ref 467), (1, .int (nI a)), (2, .int (nI b))], [], w7)
  exact P_vret d_MD_laysProduct_40 rfl (le_b rfl) (le_b rfl) ⟨rfl, hI7, FrM.of hF7 ⟨_, _, _, _, em⟩ ⟨_, _, _, _, ((w_n e7 _ (by decide)).trans ((w_n e6 _ (by decide)).trans em2))⟩⟩
