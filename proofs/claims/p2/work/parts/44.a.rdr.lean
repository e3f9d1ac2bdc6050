/-! the lines of a TEXT (by program) -/
theorem s2_Maker_between {G : pG} {w : pW} (hG : GO G) (hI : I w) {x : Nat} (hxx : QX x) {y : Nat} (hxy : QX y) (k : Nat) (hk : k < 24) {o : Nat} (hlo : o < 487) (hko : Kc o = (1, 9, 0)) (ho : o = 168) : PM G M_Maker_between 4 0 0 [.ref 155, .ref x, .ref y, .int (nI k), .ref o] w (fun r w' => r = none ∧ I w' ∧ Fr SMk w w') := by
  refine PM_of pn_Maker_between (le_b rfl) ?_
  show PW _ _ _ _ _ _ (0, [(0, .ref 155), (1, .ref x), (2, .ref y), (3, .int (nI k)), (4, .ref o)], [], w)
  refine P_aload_n d_Maker_between_0 rfl ?_
  refine P_iconst (v := 0) d_Maker_between_1 (by decide) ?_
  refine P_aload_n d_Maker_between_2 rfl ?_
  refine P_getf (i := 0) d_Maker_between_3 ok_Maker (by decide) L_Maker_7 (hI.mk) rfl ?_
  obtain ⟨f1, f1e⟩ := hI.row (r := 156) (by decide) kc_156
  refine P_callV (M := M_Maker_between) (pc := 6) (as := [.int 0, .ref 156]) (b := x) d_Maker_between_6 co_Quad_putFrame ok_Quad (hI.qx hxx).1 L_Maker_23 im_Quad_putFrame se_Quad_putFrame (s_Quad_putFrame (hI.qx hxx) 0 (by decide) f1e (by decide) (fun k hk => QX_ne hxx hk (by omega)) hG) rfl ⟨by decide, by decide⟩ ⟨by decide, by decide⟩ (by exact le_b rfl) ?_ _ rfl
  rintro _ w2 ⟨rfl, g2, e2⟩
  have s2 := w_s e2
  have hI2 : I w2 := hI.setL e2 kc_156
  have hF2 : Fr SMk w w2 := Fr.set Fr.rf e2 (SMk_t (by omega))
  show PW _ _ _ _ _ _ (9, [(0, .ref 155), (1, .ref x), (2, .ref y), (3, .int (nI k)), (4, .ref o)], [], w2)
  refine P_aload_n d_Maker_between_9 rfl ?_
  refine P_getf (i := 0) d_Maker_between_10 ok_Maker (by decide) L_Maker_7 (hI2.mk) rfl ?_
  refine P_aload_n d_Maker_between_13 rfl ?_
  refine P_getf (i := 1) d_Maker_between_14 ok_Maker (by decide) L_Maker_13 (hI2.mk) rfl ?_
  obtain ⟨f3, f3e⟩ := hI2.row (r := 157) (by decide) kc_157
  refine P_callS (M := M_Maker_between) (pc := 17) (as := [.ref 156, .ref 157]) d_Maker_between_17 co_Maps_invert L_Maker_27 sm_Maps_invert (s_Maps_invert s2 f3e (by decide) (by decide)) rfl ⟨by decide, by decide⟩ ⟨by decide, by decide⟩ (by exact le_b rfl) ?_ _ rfl
  rintro _ w4 ⟨rfl, g4, e4⟩
  have s4 := w_s e4
  have hI4 : I w4 := hI2.setL e4 kc_157
  have hF4 : Fr SMk w w4 := Fr.set hF2 e4 (SMk_t (by omega))
  show PW _ _ _ _ _ _ (20, [(0, .ref 155), (1, .ref x), (2, .ref y), (3, .int (nI k)), (4, .ref o)], [], w4)
  refine P_aload_n d_Maker_between_20 rfl ?_
  refine P_iload_n d_Maker_between_21 rfl ?_
  refine P_aload_n d_Maker_between_22 rfl ?_
  refine P_getf (i := 0) d_Maker_between_23 ok_Maker (by decide) L_Maker_7 (hI4.mk) rfl ?_
  obtain ⟨f5, f5e⟩ := hI4.row (r := 156) (by decide) kc_156
  refine P_callV (M := M_Maker_between) (pc := 26) (as := [.int (nI k), .ref 156]) (b := y) d_Maker_between_26 co_Quad_putFrame ok_Quad (hI4.qx hxy).1 L_Maker_23 im_Quad_putFrame se_Quad_putFrame (s_Quad_putFrame (hI4.qx hxy) k (by omega) f5e (by decide) (fun k hk => QX_ne hxy hk (by omega)) hG) rfl ⟨by decide, by decide⟩ ⟨by decide, by decide⟩ (by exact le_b rfl) ?_ _ rfl
  rintro _ w6 ⟨rfl, g6, e6⟩
  have s6 := w_s e6
  have hI6 : I w6 := hI4.setL e6 kc_156
  have hF6 : Fr SMk w w6 := Fr.set hF4 e6 (SMk_t (by omega))
  show PW _ _ _ _ _ _ (29, [(0, .ref 155), (1, .ref x), (2, .ref y), (3, .int (nI k)), (4, .ref o)], [], w6)
  refine P_aload_n d_Maker_between_29 rfl ?_
  refine P_getf (i := 0) d_Maker_between_30 ok_Maker (by decide) L_Maker_7 (hI6.mk) rfl ?_
  refine P_aload_n d_Maker_between_33 rfl ?_
  refine P_getf (i := 1) d_Maker_between_34 ok_Maker (by decide) L_Maker_13 (hI6.mk) rfl ?_
  refine P_aload d_Maker_between_37 rfl ?_
  obtain ⟨f7, f7e⟩ := hI6.row (r := 157) (by decide) kc_157
  obtain ⟨f8, f8e⟩ := hI6.row (r := o) (by omega) hko
  refine P_callS (M := M_Maker_between) (pc := 39) (as := [.ref 156, .ref 157, .ref o]) d_Maker_between_39 co_Maps_multiply L_Maker_33 sm_Maps_multiply (s_Maps_multiply s6 f7e f8e (by omega) (by omega) (by omega)) rfl ⟨by decide, by decide⟩ ⟨by decide, by decide⟩ (by exact le_b rfl) ?_ _ rfl
  rintro _ w9 ⟨rfl, g9, e9⟩
  have s9 := w_s e9
  have hI9 : I w9 := hI6.setL e9 hko
  have hF9 : Fr SMk w w9 := Fr.set hF6 e9 (SMk_t (by omega))
  show PW _ _ _ _ _ _ (42, [(0, .ref 155), (1, .ref x), (2, .ref y), (3, .int (nI k)), (4, .ref o)], [], w9)
  exact P_vret d_Maker_between_42 rfl (le_b rfl) (le_b rfl) ⟨rfl, hI9, hF9⟩
theorem s_Reader_readToldQuad {G : pG} {w : pW} (hG : GO G) (hI : I w) {b en ta : Nat} (hb : b = 1 ∨ b = 77) (hen : en ≤ 900) (hat : ta ≤ en) {tk tp vl fa fp : Int32} (er : w.2 164 = rdI b (nI en) (nI ta) tk tp vl fa fp) {lc qc mc pc : Nat} (eb : w.2 b = plE b lc qc mc pc) (hlc : lc ≤ 900) (hqc : qc ≤ 8) (hmc : mc ≤ 8) (hpc : pc ≤ 8) : PM G M_Reader_readToldQuad 3 0 0 [.ref 164] w (fun r w' => (∃ z : Int32, r = some (.int z) ∧ (z = -1 ∨ ∃ v, v < qc ∧ z = nI v)) ∧ I w' ∧ Fr SR1 w w' ∧ RS b en (w'.2 164)) := by
  refine PM_of pn_Reader_readToldQuad (le_b rfl) ?_
  show PW _ _ _ _ _ _ (0, [(0, .ref 164)], [], w)
  obtain ⟨hb1, hb2⟩ := pl_rng hb
  refine P_aload_n d_Reader_readToldQuad_0 rfl ?_
  refine P_callV (M := M_Reader_readToldQuad) (pc := 1) (as := []) (b := 164) d_Reader_readToldQuad_1 co_Reader_isName ok_Reader er L_Reader_157 im_Reader_isName se_Reader_isName (s_Reader_isName er) rfl ⟨by decide, by decide⟩ ⟨by decide, by decide⟩ (by exact le_b rfl) ?_ _ rfl
  rintro _ u ⟨⟨v1, rfl⟩, eu⟩
  subst u
  show PW _ _ _ _ _ _ (4, [(0, .ref 164)], [.int (bi v1)], w)
  refine P_if_eq 25 d_Reader_readToldQuad_4 (by decide) (fun c2 => ?_) (fun c2 => ?_)
  · refine P_iconst (v := (-1)) d_Reader_readToldQuad_25 (by decide) ?_
    refine P_istore_n d_Reader_readToldQuad_26 (by decide) rfl ?_
    refine P_iload_n d_Reader_readToldQuad_27 rfl ?_
    refine P_iconst (v := (-1)) d_Reader_readToldQuad_28 (by decide) ?_
    refine P_icmp_ne 41 d_Reader_readToldQuad_29 (by decide) (fun h => absurd (by decide) h) (fun _ => ?_)
    refine P_aload_n d_Reader_readToldQuad_32 rfl ?_
    refine P_iconst (v := 1) d_Reader_readToldQuad_33 (by decide) ?_
    refine P_callV (M := M_Reader_readToldQuad) (pc := 34) (as := [.int 1]) (b := 164) d_Reader_readToldQuad_34 co_Reader_refuse ok_Reader er L_Reader_88 im_Reader_refuse se_Reader_refuse (s_Reader_refuse hI (ta := ta) hb hen (by omega) er 1) rfl ⟨by decide, by decide⟩ ⟨by decide, by decide⟩ (by exact le_b rfl) ?_ _ rfl
    rintro _ w3 ⟨⟨v3, rfl⟩, hI3, hG3, ⟨ta3, tk3, tp3, vl3, fa3, fp3, ha3, k3⟩⟩
    have hF3 : Fr SR1 w w3 := Fr.tr Fr.rf hG3
    show PW _ _ _ _ _ _ (37, [(0, .ref 164), (1, .int (-1))], [.int (bi v3)], w3)
    refine P_pop d_Reader_readToldQuad_37 rfl ?_
    refine P_goto 45 d_Reader_readToldQuad_38 (by decide) ?_
    refine P_iload_n d_Reader_readToldQuad_45 rfl ?_
    exact P_iret d_Reader_readToldQuad_46 rfl (le_b rfl) (le_b rfl) ⟨⟨_, rfl, Or.inl rfl⟩, hI3, hF3, ⟨ta3, _, _, _, _, _, by omega, k3⟩⟩
  · refine P_aload_n d_Reader_readToldQuad_7 rfl ?_
    refine P_aload_n d_Reader_readToldQuad_8 rfl ?_
    refine P_getf (i := 2) d_Reader_readToldQuad_9 ok_Reader (by decide) L_Reader_9 er rfl ?_
    refine P_aload_n d_Reader_readToldQuad_12 rfl ?_
    refine P_getf (i := 6) d_Reader_readToldQuad_13 ok_Reader (by decide) L_Reader_37 er rfl ?_
    refine P_getfN (i := 4) d_Reader_readToldQuad_16 ok_Plane (by decide) L_Reader_94 eb rfl ?_
    obtain ⟨f4, f4e⟩ := hI.ints (r := 165) (by decide) kc_165
    refine P_callV (M := M_Reader_readToldQuad) (pc := 19) (as := [.ref 165, .int (nI qc)]) (b := 164) d_Reader_readToldQuad_19 co_Reader_placeAmong ok_Reader er L_Reader_160 im_Reader_placeAmong se_Reader_placeAmong (s_Reader_placeAmong er f4e (by decide) qc (by omega)) rfl ⟨by decide, by decide⟩ ⟨by decide, by decide⟩ (by exact le_b rfl) ?_ _ rfl
    rintro _ u ⟨⟨v5, rfl, hv5⟩, eu⟩
    subst u
    show PW _ _ _ _ _ _ (22, [(0, .ref 164)], [.int v5], w)
    refine P_goto 26 d_Reader_readToldQuad_22 (by decide) ?_
    refine P_istore_n d_Reader_readToldQuad_26 (by decide) rfl ?_
    refine P_iload_n d_Reader_readToldQuad_27 rfl ?_
    refine P_iconst (v := (-1)) d_Reader_readToldQuad_28 (by decide) ?_
    refine P_icmp_ne 41 d_Reader_readToldQuad_29 (by decide) (fun c6 => ?_) (fun c6 => ?_)
    · obtain ⟨v5N, hv5N, rfl⟩ := hv5.resolve_left c6
      refine P_aload_n d_Reader_readToldQuad_41 rfl ?_
      refine P_callV (M := M_Reader_readToldQuad) (pc := 42) (as := []) (b := 164) d_Reader_readToldQuad_42 co_Reader_next ok_Reader er L_Reader_66 im_Reader_next se_Reader_next (s_Reader_next hI (ta := ta) hb hen (by omega) er) rfl ⟨by decide, by decide⟩ ⟨by decide, by decide⟩ (by exact le_b rfl) ?_ _ rfl
      rintro _ w7 ⟨rfl, hI7, hG7, ⟨ta7, tk7, tp7, vl7, fa7, fp7, ha7, k7⟩⟩
      have hF7 : Fr SR1 w w7 := Fr.tr Fr.rf hG7
      show PW _ _ _ _ _ _ (45, [(0, .ref 164), (1, .int (nI v5N))], [], w7)
      refine P_iload_n d_Reader_readToldQuad_45 rfl ?_
      exact P_iret d_Reader_readToldQuad_46 rfl (le_b rfl) (le_b rfl) ⟨⟨_, rfl, Or.inr ⟨v5N, by omega, rfl⟩⟩, hI7, hF7, ⟨ta7, _, _, _, _, _, by omega, k7⟩⟩
    · refine P_aload_n d_Reader_readToldQuad_32 rfl ?_
      refine P_iconst (v := 1) d_Reader_readToldQuad_33 (by decide) ?_
      refine P_callV (M := M_Reader_readToldQuad) (pc := 34) (as := [.int 1]) (b := 164) d_Reader_readToldQuad_34 co_Reader_refuse ok_Reader er L_Reader_88 im_Reader_refuse se_Reader_refuse (s_Reader_refuse hI (ta := ta) hb hen (by omega) er 1) rfl ⟨by decide, by decide⟩ ⟨by decide, by decide⟩ (by exact le_b rfl) ?_ _ rfl
      rintro _ w8 ⟨⟨v8, rfl⟩, hI8, hG8, ⟨ta8, tk8, tp8, vl8, fa8, fp8, ha8, k8⟩⟩
      have hF8 : Fr SR1 w w8 := Fr.tr Fr.rf hG8
      show PW _ _ _ _ _ _ (37, [(0, .ref 164), (1, .int v5)], [.int (bi v8)], w8)
      refine P_pop d_Reader_readToldQuad_37 rfl ?_
      refine P_goto 45 d_Reader_readToldQuad_38 (by decide) ?_
      refine P_iload_n d_Reader_readToldQuad_45 rfl ?_
      exact P_iret d_Reader_readToldQuad_46 rfl (le_b rfl) (le_b rfl) ⟨⟨_, rfl, hv5⟩, hI8, hF8, ⟨ta8, _, _, _, _, _, by omega, k8⟩⟩
theorem s_Reader_readQuad {G : pG} {w : pW} (hG : GO G) (hI : I w) {b en ta : Nat} (hb : b = 1 ∨ b = 77) (hen : en ≤ 900) (hat : ta ≤ en) {tk tp vl fa fp : Int32} (er : w.2 164 = rdI b (nI en) (nI ta) tk tp vl fa fp) {lc qc mc pc : Nat} (eb : w.2 b = plE b lc qc mc pc) (hlc : lc ≤ 900) (hqc : qc ≤ 8) (hmc : mc ≤ 8) (hpc : pc ≤ 8) : PM G M_Reader_readQuad 4 0 0 [.ref 164] w (fun r w' => (∃ v, r = some (.int (bi v))) ∧ I w' ∧ Fr (SR2 b) w w' ∧ RS b en (w'.2 164) ∧ PS b lc (w'.2 b)) := by
  refine PM_of pn_Reader_readQuad (le_b rfl) ?_
  show PW _ _ _ _ _ _ (0, [(0, .ref 164)], [], w)
  obtain ⟨hb1, hb2⟩ := pl_rng hb
  refine P_aload_n d_Reader_readQuad_0 rfl ?_
  refine P_getf (i := 6) d_Reader_readQuad_1 ok_Reader (by decide) L_Reader_37 er rfl ?_
  refine P_getfN (i := 4) d_Reader_readQuad_4 ok_Plane (by decide) L_Reader_94 eb rfl ?_
  refine P_istore_n d_Reader_readQuad_7 (by decide) rfl ?_
  refine P_iload_n d_Reader_readQuad_8 rfl ?_
  refine P_bipush (v := 8) d_Reader_readQuad_9 (by decide) ?_
  refine P_icmp_ne 20 d_Reader_readQuad_11 (by decide) (fun c1 => ?_) (fun c1 => ?_)
  · have ic1 : qc ≠ 8 := fun q => c1 (congrArg nI q)
    refine P_aload_n d_Reader_readQuad_20 rfl ?_
    refine P_callV (M := M_Reader_readQuad) (pc := 21) (as := []) (b := 164) d_Reader_readQuad_21 co_Reader_next ok_Reader er L_Reader_66 im_Reader_next se_Reader_next (s_Reader_next hI (ta := ta) hb hen (by omega) er) rfl ⟨by decide, by decide⟩ ⟨by decide, by decide⟩ (by exact le_b rfl) ?_ _ rfl
    rintro _ w2 ⟨rfl, hI2, hG2, ⟨ta2, tk2, tp2, vl2, fa2, fp2, ha2, k2⟩⟩
    have hF2 : Fr (SR2 b) w w2 := Fr.tr Fr.rf (Fr.r12 hG2)
    show PW _ _ _ _ _ _ (24, [(0, .ref 164), (1, .int (nI qc))], [], w2)
    refine P_aload_n d_Reader_readQuad_24 rfl ?_
    refine P_aload_n d_Reader_readQuad_25 rfl ?_
    refine P_getf (i := 2) d_Reader_readQuad_26 ok_Reader (by decide) L_Reader_9 k2 rfl ?_
    refine P_iload_n d_Reader_readQuad_29 rfl ?_
    refine P_callV (M := M_Reader_readQuad) (pc := 30) (as := [.ref 165, .int (nI qc)]) (b := 164) d_Reader_readQuad_30 co_Reader_readName ok_Reader k2 L_Reader_97 im_Reader_readName se_Reader_readName (s_Reader_readName hI2 (ta := ta2) hb hen (by omega) k2 (by decide) kc_165 qc (by omega) (by omega)) rfl ⟨by decide, by decide⟩ ⟨by decide, by decide⟩ (by exact le_b rfl) ?_ _ rfl
    rintro _ w3 ⟨⟨v3, rfl⟩, hI3, hG3, ⟨ta3, tk3, tp3, vl3, fa3, fp3, ha3, k3⟩⟩
    have hF3 : Fr (SR2 b) w w3 := Fr.tr hF2 (Fr.r12 hG3)
    show PW _ _ _ _ _ _ (33, [(0, .ref 164), (1, .int (nI qc))], [.int (bi v3)], w3)
    refine P_if_ne 38 d_Reader_readQuad_33 (by decide) (fun c4 => ?_) (fun c4 => ?_)
    · refine P_aload_n d_Reader_readQuad_38 rfl ?_
      refine P_getf (i := 6) d_Reader_readQuad_39 ok_Reader (by decide) L_Reader_37 k3 rfl ?_
      refine P_getfN (i := 0) d_Reader_readQuad_42 ok_Plane (by decide) L_Reader_101 ((hG3.2 _ (SR1_f (by omega))).trans ((hG2.2 _ (SR1_f (by omega))).trans eb)) rfl ?_
      refine P_iload_n d_Reader_readQuad_45 rfl ?_
      refine P_aald (j := qc) (q := b + 1 + 27 + 6 * qc) d_Reader_readQuad_46 (hI3.qs hb) rfl (ix_nI (by omega)) (by omega) (pq_at (by omega)) ?_
      refine P_astore_n d_Reader_readQuad_47 (by decide) rfl ?_
      refine P_iconst (v := 0) d_Reader_readQuad_48 (by decide) ?_
      refine P_istore_n d_Reader_readQuad_49 (by decide) rfl ?_
      refine PW_ind (σ := pW) (4) (fun jj ss => I (ss) ∧ Fr (SR2 b) w (ss) ∧ RS b en ((ss).2 164) ∧ (ss).2 b = .inr (1, [.ref (b + 1), .ref (b + 2), .ref (b + 19), .int (nI lc), .int (nI qc), .int (nI mc), .int (nI pc)])) (fun jj ss => (50, [(0, .ref 164), (1, .int (nI qc)), (2, .ref (b + 1 + 27 + 6 * qc)), (3, .int (nI jj))], [], ss)) ?_ ?_ 0 (w3) (by omega) ⟨hI3, hF3, ⟨ta3, _, _, _, _, _, by omega, k3⟩, ((hG3.2 _ (SR1_f (by omega))).trans ((hG2.2 _ (SR1_f (by omega))).trans eb))⟩
      · rintro uj5 ⟨hIj5, hFj5, ⟨taj5_0, tkj5_0, tpj5_0, vlj5_0, faj5_0, fpj5_0, haj5_0, kj5_0⟩, kj5_1⟩
        show PW _ _ _ _ _ _ (50, [(0, .ref 164), (1, .int (nI qc)), (2, .ref (b + 1 + 27 + 6 * qc)), (3, .int 4)], [], uj5)
        refine P_iload_n d_Reader_readQuad_50 rfl ?_
        refine P_iconst (v := 4) d_Reader_readQuad_51 (by decide) ?_
        refine P_icmp_ge 95 d_Reader_readQuad_52 (by decide) (fun _ => ?_) (fun h => absurd (by decide) h)
        refine P_aload_n d_Reader_readQuad_95 rfl ?_
        refine P_getf (i := 9) d_Reader_readQuad_96 ok_Reader (by decide) L_Reader_69 kj5_0 rfl ?_
        refine P_iconst (v := 1) d_Reader_readQuad_99 (by decide) ?_
        refine P_icmp_eq 109 d_Reader_readQuad_100 (by decide) (fun c6 => ?_) (fun c6 => ?_)
        · refine P_aload_n d_Reader_readQuad_109 rfl ?_
          refine P_callV (M := M_Reader_readQuad) (pc := 110) (as := []) (b := b + 1 + 27 + 6 * qc) d_Reader_readQuad_110 co_Quad_isFlat ok_Quad (hIj5.quad hb (by omega)) L_Reader_121 im_Quad_isFlat se_Quad_isFlat (s_Quad_isFlat (hIj5.quadS hb (q := qc) (by omega))) rfl ⟨by decide, by decide⟩ ⟨by decide, by decide⟩ (by exact le_b rfl) ?_ _ rfl
          rintro _ u ⟨⟨v7, rfl⟩, eu⟩
          subst u
          show PW _ _ _ _ _ _ (113, [(0, .ref 164), (1, .int (nI qc)), (2, .ref (b + 1 + 27 + 6 * qc)), (3, .int 4)], [.int (bi v7)], uj5)
          refine P_if_eq 122 d_Reader_readQuad_113 (by decide) (fun c8 => ?_) (fun c8 => ?_)
          · refine P_aload_n d_Reader_readQuad_122 rfl ?_
            refine P_getf (i := 6) d_Reader_readQuad_123 ok_Reader (by decide) L_Reader_37 kj5_0 rfl ?_
            refine P_dup d_Reader_readQuad_126 rfl ?_
            refine P_getfN (i := 4) d_Reader_readQuad_127 ok_Plane (by decide) L_Reader_94 kj5_1 rfl ?_
            refine P_iconst (v := 1) d_Reader_readQuad_130 (by decide) ?_
            refine P_iaddN (a := qc) (b := 1) d_Reader_readQuad_131 ?_
            show PW _ _ _ _ _ _ (132, [(0, .ref 164), (1, .int (nI qc)), (2, .ref (b + 1 + 27 + 6 * qc)), (3, .int 4)], [.int (nI (qc + 1)), .ref b], uj5)
            refine P_putNG (i := 4) d_Reader_readQuad_132 ok_Plane (by decide) rfl L_Reader_94 kj5_1 (fun _ => rfl) (fun _ => rfl) (fun w9 e9 s9 n9 z9 => ?_)
            have hI9 : I w9 := hIj5.setP hb (show w9 = (_, wu _ b (plE b lc (qc + 1) mc pc)) from e9) (by omega) (by omega) (by omega) (by omega)
            have hF9 : Fr (SR2 b) w w9 := Fr.set hFj5 e9 (SR2_t (by omega))
            show PW _ _ _ _ _ _ (135, [(0, .ref 164), (1, .int (nI qc)), (2, .ref (b + 1 + 27 + 6 * qc)), (3, .int 4)], [], w9)
            refine P_aload_n d_Reader_readQuad_135 rfl ?_
            refine P_callV (M := M_Reader_readQuad) (pc := 136) (as := []) (b := 164) d_Reader_readQuad_136 co_Reader_next ok_Reader ((w_n e9 _ (by omega)).trans kj5_0) L_Reader_66 im_Reader_next se_Reader_next (s_Reader_next hI9 (ta := taj5_0) hb hen (by omega) ((w_n e9 _ (by omega)).trans kj5_0)) rfl ⟨by decide, by decide⟩ ⟨by decide, by decide⟩ (by exact le_b rfl) ?_ _ rfl
            rintro _ w10 ⟨rfl, hI10, hG10, ⟨ta10, tk10, tp10, vl10, fa10, fp10, ha10, k10⟩⟩
            have hF10 : Fr (SR2 b) w w10 := Fr.tr hF9 (Fr.r12 hG10)
            show PW _ _ _ _ _ _ (139, [(0, .ref 164), (1, .int (nI qc)), (2, .ref (b + 1 + 27 + 6 * qc)), (3, .int 4)], [], w10)
            refine P_iconst (v := 1) d_Reader_readQuad_139 (by decide) ?_
            exact P_zret d_Reader_readQuad_140 rfl rfl (le_b rfl) (le_b rfl) ⟨⟨true, rfl⟩, hI10, hF10, ⟨ta10, _, _, _, _, _, by omega, k10⟩, (qc + 1), mc, pc, by omega, by omega, by omega, ((hG10.2 _ (SR1_f (by omega))).trans s9)⟩
          · refine P_aload_n d_Reader_readQuad_116 rfl ?_
            refine P_iconst (v := 4) d_Reader_readQuad_117 (by decide) ?_
            refine P_callV (M := M_Reader_readQuad) (pc := 118) (as := [.int 4]) (b := 164) d_Reader_readQuad_118 co_Reader_refuse ok_Reader kj5_0 L_Reader_88 im_Reader_refuse se_Reader_refuse (s_Reader_refuse hIj5 (ta := taj5_0) hb hen (by omega) kj5_0 4) rfl ⟨by decide, by decide⟩ ⟨by decide, by decide⟩ (by exact le_b rfl) ?_ _ rfl
            rintro _ w11 ⟨⟨v11, rfl⟩, hI11, hG11, ⟨ta11, tk11, tp11, vl11, fa11, fp11, ha11, k11⟩⟩
            have hF11 : Fr (SR2 b) w w11 := Fr.tr hFj5 (Fr.r12 hG11)
            show PW _ _ _ _ _ _ (121, [(0, .ref 164), (1, .int (nI qc)), (2, .ref (b + 1 + 27 + 6 * qc)), (3, .int 4)], [.int (bi v11)], w11)
            exact P_zret d_Reader_readQuad_121 rfl (nar_bi _) (le_b rfl) (le_b rfl) ⟨⟨_, rfl⟩, hI11, hF11, ⟨ta11, _, _, _, _, _, by omega, k11⟩, qc, mc, pc, by omega, by omega, by omega, ((hG11.2 _ (SR1_f (by omega))).trans kj5_1)⟩
        · refine P_aload_n d_Reader_readQuad_103 rfl ?_
          refine P_iconst (v := 1) d_Reader_readQuad_104 (by decide) ?_
          refine P_callV (M := M_Reader_readQuad) (pc := 105) (as := [.int 1]) (b := 164) d_Reader_readQuad_105 co_Reader_refuse ok_Reader kj5_0 L_Reader_88 im_Reader_refuse se_Reader_refuse (s_Reader_refuse hIj5 (ta := taj5_0) hb hen (by omega) kj5_0 1) rfl ⟨by decide, by decide⟩ ⟨by decide, by decide⟩ (by exact le_b rfl) ?_ _ rfl
          rintro _ w12 ⟨⟨v12, rfl⟩, hI12, hG12, ⟨ta12, tk12, tp12, vl12, fa12, fp12, ha12, k12⟩⟩
          have hF12 : Fr (SR2 b) w w12 := Fr.tr hFj5 (Fr.r12 hG12)
          show PW _ _ _ _ _ _ (108, [(0, .ref 164), (1, .int (nI qc)), (2, .ref (b + 1 + 27 + 6 * qc)), (3, .int 4)], [.int (bi v12)], w12)
          exact P_zret d_Reader_readQuad_108 rfl (nar_bi _) (le_b rfl) (le_b rfl) ⟨⟨_, rfl⟩, hI12, hF12, ⟨ta12, _, _, _, _, _, by omega, k12⟩, qc, mc, pc, by omega, by omega, by omega, ((hG12.2 _ (SR1_f (by omega))).trans kj5_1)⟩
      · rintro j5 uj5 hj5 ⟨hIj5, hFj5, ⟨taj5_0, tkj5_0, tpj5_0, vlj5_0, faj5_0, fpj5_0, haj5_0, kj5_0⟩, kj5_1⟩ kkj5
        show PW _ _ _ _ _ _ (50, [(0, .ref 164), (1, .int (nI qc)), (2, .ref (b + 1 + 27 + 6 * qc)), (3, .int (nI j5))], [], uj5)
        refine P_iload_n d_Reader_readQuad_50 rfl ?_
        refine P_iconst (v := 4) d_Reader_readQuad_51 (by decide) ?_
        refine P_icmp_ge 95 d_Reader_readQuad_52 (by decide) (fun h => absurd h (nI_geF (a := j5) (b := 4) (by omega) (by omega))) (fun _ => ?_)
        refine P_aload_n d_Reader_readQuad_55 rfl ?_
        refine P_iconst (v := 2) d_Reader_readQuad_56 (by decide) ?_
        refine P_bipush (v := 20) d_Reader_readQuad_57 (by decide) ?_
        refine P_callV (M := M_Reader_readQuad) (pc := 59) (as := [.int 2, .int 20]) (b := 164) d_Reader_readQuad_59 co_Reader_readNumbers ok_Reader kj5_0 L_Reader_105 im_Reader_readNumbers se_Reader_readNumbers (s_Reader_readNumbers hIj5 (ta := taj5_0) hb hen (by omega) kj5_0 2 (by decide) 20) rfl ⟨by decide, by decide⟩ ⟨by decide, by decide⟩ (by exact le_b rfl) ?_ _ rfl
        rintro _ w13 ⟨⟨v13, rfl⟩, hI13, hG13, ⟨ta13, tk13, tp13, vl13, fa13, fp13, ha13, k13⟩⟩
        have hF13 : Fr (SR2 b) w w13 := Fr.tr hFj5 (Fr.r12 hG13)
        show PW _ _ _ _ _ _ (62, [(0, .ref 164), (1, .int (nI qc)), (2, .ref (b + 1 + 27 + 6 * qc)), (3, .int (nI j5))], [.int (bi v13)], w13)
        refine P_if_ne 67 d_Reader_readQuad_62 (by decide) (fun c14 => ?_) (fun c14 => ?_)
        · refine P_aload_n d_Reader_readQuad_67 rfl ?_
          refine P_getf (i := 4) d_Reader_readQuad_68 ok_Reader (by decide) L_Reader_18 k13 rfl ?_
          refine P_iconst (v := 0) d_Reader_readQuad_71 (by decide) ?_
          obtain ⟨f15, f15e⟩ := hI13.row (r := 167) (by decide) kc_167
          refine P_lald (j := 0) d_Reader_readQuad_72 f15e ⟨by decide, by decide⟩ (by decide) ?_
          refine P_aload_n d_Reader_readQuad_73 rfl ?_
          refine P_getf (i := 4) d_Reader_readQuad_74 ok_Reader (by decide) L_Reader_18 k13 rfl ?_
          refine P_iconst (v := 1) d_Reader_readQuad_77 (by decide) ?_
          refine P_lald (j := 1) d_Reader_readQuad_78 f15e ⟨by decide, by decide⟩ (by decide) ?_
          refine P_lconst (v := 1) d_Reader_readQuad_79 (by decide) ?_
          refine P_aload_n d_Reader_readQuad_80 rfl ?_
          refine P_getfN (i := 0) d_Reader_readQuad_81 ok_Quad (by decide) L_Reader_109 (hI13.quad hb (by omega)) rfl ?_
          refine P_iload_n d_Reader_readQuad_84 rfl ?_
          refine P_aald (j := j5) (q := b + 1 + 27 + 6 * qc + 1 + 1 + j5) d_Reader_readQuad_85 (hI13.rows (by omega) (Kc_q hb (by omega)).2.1) rfl (ix_nI (by omega)) (by omega) (rows_at (by omega)) ?_
          obtain ⟨f16, f16e⟩ := hI13.row (r := b + 1 + 27 + 6 * qc + 1 + 1 + j5) (by omega) ((Kc_q hb (by omega)).2.2 _ (by omega))
          refine P_callS (M := M_Reader_readQuad) (pc := 86) (as := [.long (f15 0), .long (f15 1), .long 1, .ref (b + 1 + 27 + 6 * qc + 1 + 1 + j5)]) d_Reader_readQuad_86 co_Rows_put L_Reader_115 sm_Rows_put (v_Rows_put f16e (by omega) (f15 0) (f15 1) 1) rfl ⟨by decide, by decide⟩ ⟨by decide, by decide⟩ (by exact le_b rfl) ?_ _ rfl
          rintro _ w17 ⟨rfl, e17⟩
          have s17 := w_s e17
          generalize p3 _ _ _ _ = g18 at e17 s17
          have hI17 : I w17 := hI13.setL e17 ((Kc_q hb (by omega)).2.2 _ (by omega))
          have hF17 : Fr (SR2 b) w w17 := Fr.set hF13 e17 (SR2_t (by omega))
          show PW _ _ _ _ _ _ (89, [(0, .ref 164), (1, .int (nI qc)), (2, .ref (b + 1 + 27 + 6 * qc)), (3, .int (nI j5))], [], w17)
          refine P_iinc (v := nI (j5 + 1)) d_Reader_readQuad_89 (by decide) rfl (nI_add j5 1) rfl ?_
          refine P_goto 50 d_Reader_readQuad_92 (by decide) ?_
          exact kkj5 (w17) ⟨hI17, hF17, ⟨ta13, _, _, _, _, _, by omega, ((w_n e17 _ (by omega)).trans k13)⟩, ((w_n e17 _ (by omega)).trans ((hG13.2 _ (SR1_f (by omega))).trans kj5_1))⟩
        · refine P_iconst (v := 0) d_Reader_readQuad_65 (by decide) ?_
          exact P_zret d_Reader_readQuad_66 rfl rfl (le_b rfl) (le_b rfl) ⟨⟨false, rfl⟩, hI13, hF13, ⟨ta13, _, _, _, _, _, by omega, k13⟩, qc, mc, pc, by omega, by omega, by omega, ((hG13.2 _ (SR1_f (by omega))).trans kj5_1)⟩
    · refine P_iconst (v := 0) d_Reader_readQuad_36 (by decide) ?_
      exact P_zret d_Reader_readQuad_37 rfl rfl (le_b rfl) (le_b rfl) ⟨⟨false, rfl⟩, hI3, hF3, ⟨ta3, _, _, _, _, _, by omega, k3⟩, qc, mc, pc, by omega, by omega, by omega, ((hG3.2 _ (SR1_f (by omega))).trans ((hG2.2 _ (SR1_f (by omega))).trans eb))⟩
  · have ic1 : qc = 8 := (nI_eq (by omega) (by omega)).mp c1
    refine P_aload_n d_Reader_readQuad_14 rfl ?_
    refine P_iconst (v := 2) d_Reader_readQuad_15 (by decide) ?_
    refine P_callV (M := M_Reader_readQuad) (pc := 16) (as := [.int 2]) (b := 164) d_Reader_readQuad_16 co_Reader_refuse ok_Reader er L_Reader_88 im_Reader_refuse se_Reader_refuse (s_Reader_refuse hI (ta := ta) hb hen (by omega) er 2) rfl ⟨by decide, by decide⟩ ⟨by decide, by decide⟩ (by exact le_b rfl) ?_ _ rfl
    rintro _ w19 ⟨⟨v19, rfl⟩, hI19, hG19, ⟨ta19, tk19, tp19, vl19, fa19, fp19, ha19, k19⟩⟩
    have hF19 : Fr (SR2 b) w w19 := Fr.tr Fr.rf (Fr.r12 hG19)
    show PW _ _ _ _ _ _ (19, [(0, .ref 164), (1, .int (nI qc))], [.int (bi v19)], w19)
    exact P_zret d_Reader_readQuad_19 rfl (nar_bi _) (le_b rfl) (le_b rfl) ⟨⟨_, rfl⟩, hI19, hF19, ⟨ta19, _, _, _, _, _, by omega, k19⟩, qc, mc, pc, by omega, by omega, by omega, ((hG19.2 _ (SR1_f (by omega))).trans eb)⟩
theorem s_Reader_readMap {G : pG} {w : pW} (hG : GO G) (hI : I w) {b en ta : Nat} (hb : b = 1 ∨ b = 77) (hen : en ≤ 900) (hat : ta ≤ en) {tk tp vl fa fp : Int32} (er : w.2 164 = rdI b (nI en) (nI ta) tk tp vl fa fp) {lc qc mc pc : Nat} (eb : w.2 b = plE b lc qc mc pc) (hlc : lc ≤ 900) (hqc : qc ≤ 8) (hmc : mc ≤ 8) (hpc : pc ≤ 8) : PM G M_Reader_readMap 5 0 0 [.ref 164] w (fun r w' => (∃ v, r = some (.int (bi v))) ∧ I w' ∧ Fr (SR2 b) w w' ∧ RS b en (w'.2 164) ∧ PS b lc (w'.2 b)) := by
  refine PM_of pn_Reader_readMap (le_b rfl) ?_
  show PW _ _ _ _ _ _ (0, [(0, .ref 164)], [], w)
  obtain ⟨hb1, hb2⟩ := pl_rng hb
  refine P_aload_n d_Reader_readMap_0 rfl ?_
  refine P_getf (i := 6) d_Reader_readMap_1 ok_Reader (by decide) L_Reader_37 er rfl ?_
  refine P_getfN (i := 5) d_Reader_readMap_4 ok_Plane (by decide) L_Reader_124 eb rfl ?_
  refine P_bipush (v := 8) d_Reader_readMap_7 (by decide) ?_
  refine P_icmp_ne 18 d_Reader_readMap_9 (by decide) (fun c1 => ?_) (fun c1 => ?_)
  · have ic1 : mc ≠ 8 := fun q => c1 (congrArg nI q)
    refine P_aload_n d_Reader_readMap_18 rfl ?_
    refine P_callV (M := M_Reader_readMap) (pc := 19) (as := []) (b := 164) d_Reader_readMap_19 co_Reader_next ok_Reader er L_Reader_66 im_Reader_next se_Reader_next (s_Reader_next hI (ta := ta) hb hen (by omega) er) rfl ⟨by decide, by decide⟩ ⟨by decide, by decide⟩ (by exact le_b rfl) ?_ _ rfl
    rintro _ w2 ⟨rfl, hI2, hG2, ⟨ta2, tk2, tp2, vl2, fa2, fp2, ha2, k2⟩⟩
    have hF2 : Fr (SR2 b) w w2 := Fr.tr Fr.rf (Fr.r12 hG2)
    show PW _ _ _ _ _ _ (22, [(0, .ref 164)], [], w2)
    refine P_aload_n d_Reader_readMap_22 rfl ?_
    refine P_aload_n d_Reader_readMap_23 rfl ?_
    refine P_getf (i := 3) d_Reader_readMap_24 ok_Reader (by decide) L_Reader_15 k2 rfl ?_
    refine P_aload_n d_Reader_readMap_27 rfl ?_
    refine P_getf (i := 6) d_Reader_readMap_28 ok_Reader (by decide) L_Reader_37 k2 rfl ?_
    refine P_getfN (i := 5) d_Reader_readMap_31 ok_Plane (by decide) L_Reader_124 ((hG2.2 _ (SR1_f (by omega))).trans eb) rfl ?_
    refine P_callV (M := M_Reader_readMap) (pc := 34) (as := [.ref 166, .int (nI mc)]) (b := 164) d_Reader_readMap_34 co_Reader_readName ok_Reader k2 L_Reader_97 im_Reader_readName se_Reader_readName (s_Reader_readName hI2 (ta := ta2) hb hen (by omega) k2 (by decide) kc_166 mc (by omega) (by omega)) rfl ⟨by decide, by decide⟩ ⟨by decide, by decide⟩ (by exact le_b rfl) ?_ _ rfl
    rintro _ w3 ⟨⟨v3, rfl⟩, hI3, hG3, ⟨ta3, tk3, tp3, vl3, fa3, fp3, ha3, k3⟩⟩
    have hF3 : Fr (SR2 b) w w3 := Fr.tr hF2 (Fr.r12 hG3)
    show PW _ _ _ _ _ _ (37, [(0, .ref 164)], [.int (bi v3)], w3)
    refine P_if_ne 42 d_Reader_readMap_37 (by decide) (fun c4 => ?_) (fun c4 => ?_)
    · refine P_aload_n d_Reader_readMap_42 rfl ?_
      refine P_callV (M := M_Reader_readMap) (pc := 43) (as := []) (b := 164) d_Reader_readMap_43 co_Reader_readToldQuad ok_Reader k3 L_Reader_127 im_Reader_readToldQuad se_Reader_readToldQuad (s_Reader_readToldQuad hG hI3 (ta := ta3) hb hen (by omega) k3 ((hG3.2 _ (SR1_f (by omega))).trans ((hG2.2 _ (SR1_f (by omega))).trans eb)) (by omega) (by omega) (by omega) (by omega)) rfl ⟨by decide, by decide⟩ ⟨by decide, by decide⟩ (by exact le_b rfl) ?_ _ rfl
      rintro _ w5 ⟨⟨v5, rfl, hv5⟩, hI5, hG5, ⟨ta5, tk5, tp5, vl5, fa5, fp5, ha5, k5⟩⟩
      have hF5 : Fr (SR2 b) w w5 := Fr.tr hF3 (Fr.r12 hG5)
      show PW _ _ _ _ _ _ (46, [(0, .ref 164)], [.int v5], w5)
      refine P_istore_n d_Reader_readMap_46 (by decide) rfl ?_
      refine P_iload_n d_Reader_readMap_47 rfl ?_
      refine P_iconst (v := (-1)) d_Reader_readMap_48 (by decide) ?_
      refine P_icmp_ne 56 d_Reader_readMap_49 (by decide) (fun c6 => ?_) (fun c6 => ?_)
      · obtain ⟨v5N, hv5N, rfl⟩ := hv5.resolve_left c6
        refine P_aload_n d_Reader_readMap_56 rfl ?_
        refine P_callV (M := M_Reader_readMap) (pc := 57) (as := []) (b := 164) d_Reader_readMap_57 co_Reader_readToldQuad ok_Reader k5 L_Reader_127 im_Reader_readToldQuad se_Reader_readToldQuad (s_Reader_readToldQuad hG hI5 (ta := ta5) hb hen (by omega) k5 ((hG5.2 _ (SR1_f (by omega))).trans ((hG3.2 _ (SR1_f (by omega))).trans ((hG2.2 _ (SR1_f (by omega))).trans eb))) (by omega) (by omega) (by omega) (by omega)) rfl ⟨by decide, by decide⟩ ⟨by decide, by decide⟩ (by exact le_b rfl) ?_ _ rfl
        rintro _ w7 ⟨⟨v7, rfl, hv7⟩, hI7, hG7, ⟨ta7, tk7, tp7, vl7, fa7, fp7, ha7, k7⟩⟩
        have hF7 : Fr (SR2 b) w w7 := Fr.tr hF5 (Fr.r12 hG7)
        show PW _ _ _ _ _ _ (60, [(0, .ref 164), (1, .int (nI v5N))], [.int v7], w7)
        refine P_istore_n d_Reader_readMap_60 (by decide) rfl ?_
        refine P_iload_n d_Reader_readMap_61 rfl ?_
        refine P_iconst (v := (-1)) d_Reader_readMap_62 (by decide) ?_
        refine P_icmp_ne 68 d_Reader_readMap_63 (by decide) (fun c8 => ?_) (fun c8 => ?_)
        · obtain ⟨v7N, hv7N, rfl⟩ := hv7.resolve_left c8
          refine P_aload_n d_Reader_readMap_68 rfl ?_
          refine P_getf (i := 9) d_Reader_readMap_69 ok_Reader (by decide) L_Reader_69 k7 rfl ?_
          refine P_iconst (v := 1) d_Reader_readMap_72 (by decide) ?_
          refine P_icmp_eq 82 d_Reader_readMap_73 (by decide) (fun c9 => ?_) (fun c9 => ?_)
          · refine P_aload_n d_Reader_readMap_82 rfl ?_
            refine P_getf (i := 1) d_Reader_readMap_83 ok_Reader (by decide) L_Reader_33 k7 rfl ?_
            refine P_aload_n d_Reader_readMap_86 rfl ?_
            refine P_getf (i := 6) d_Reader_readMap_87 ok_Reader (by decide) L_Reader_37 k7 rfl ?_
            refine P_getfN (i := 0) d_Reader_readMap_90 ok_Plane (by decide) L_Reader_101 ((hG7.2 _ (SR1_f (by omega))).trans ((hG5.2 _ (SR1_f (by omega))).trans ((hG3.2 _ (SR1_f (by omega))).trans ((hG2.2 _ (SR1_f (by omega))).trans eb)))) rfl ?_
            refine P_iload_n d_Reader_readMap_93 rfl ?_
            refine P_aald (j := v5N) (q := b + 1 + 27 + 6 * v5N) d_Reader_readMap_94 (hI7.qs hb) rfl (ix_nI (by omega)) (by omega) (pq_at (by omega)) ?_
            refine P_aload_n d_Reader_readMap_95 rfl ?_
            refine P_getf (i := 6) d_Reader_readMap_96 ok_Reader (by decide) L_Reader_37 k7 rfl ?_
            refine P_getfN (i := 0) d_Reader_readMap_99 ok_Plane (by decide) L_Reader_101 ((hG7.2 _ (SR1_f (by omega))).trans ((hG5.2 _ (SR1_f (by omega))).trans ((hG3.2 _ (SR1_f (by omega))).trans ((hG2.2 _ (SR1_f (by omega))).trans eb)))) rfl ?_
            refine P_iload_n d_Reader_readMap_102 rfl ?_
            refine P_aald (j := v7N) (q := b + 1 + 27 + 6 * v7N) d_Reader_readMap_103 (hI7.qs hb) rfl (ix_nI (by omega)) (by omega) (pq_at (by omega)) ?_
            refine P_iconst (v := 0) d_Reader_readMap_104 (by decide) ?_
            refine P_aload_n d_Reader_readMap_105 rfl ?_
            refine P_getf (i := 5) d_Reader_readMap_106 ok_Reader (by decide) L_Reader_22 k7 rfl ?_
            refine P_callV (M := M_Reader_readMap) (pc := 109) (as := [.ref (b + 1 + 27 + 6 * v5N), .ref (b + 1 + 27 + 6 * v7N), .int 0, .ref 168]) (b := 155) d_Reader_readMap_109 co_Maker_between ok_Maker (hI7.mk) L_Reader_131 im_Maker_between se_Maker_between (s2_Maker_between hG hI7 (QX_pl hb (q := v5N) (by omega)) (QX_pl hb (q := v7N) (by omega)) 0 (by decide) (by decide) kc_168 (by omega)) rfl ⟨by decide, by decide⟩ ⟨by decide, by decide⟩ (by exact le_b rfl) ?_ _ rfl
            rintro _ w10 ⟨rfl, hI10, hG10⟩
            have hF10 : Fr (SR2 b) w w10 := Fr.tr hF7 (Fr.mk2 hG10)
            show PW _ _ _ _ _ _ (112, [(0, .ref 164), (1, .int (nI v5N)), (2, .int (nI v7N))], [], w10)
            refine P_aload_n d_Reader_readMap_112 rfl ?_
            refine P_getf (i := 5) d_Reader_readMap_113 ok_Reader (by decide) L_Reader_22 ((hG10.2 _ (SMk_f (by omega))).trans k7) rfl ?_
            obtain ⟨f11, f11e⟩ := hI10.row (r := 168) (by decide) kc_168
            refine P_callS (M := M_Reader_readMap) (pc := 116) (as := [.ref 168]) d_Reader_readMap_116 co_Maps_isLarge L_Reader_137 sm_Maps_isLarge (s_Maps_isLarge f11e) rfl ⟨by decide, by decide⟩ ⟨by decide, by decide⟩ (by exact le_b rfl) ?_ _ rfl
            rintro _ u ⟨⟨v12, rfl⟩, eu⟩
            subst u
            show PW _ _ _ _ _ _ (119, [(0, .ref 164), (1, .int (nI v5N)), (2, .int (nI v7N))], [.int (bi v12)], w10)
            refine P_if_eq 128 d_Reader_readMap_119 (by decide) (fun c13 => ?_) (fun c13 => ?_)
            · refine P_aload_n d_Reader_readMap_128 rfl ?_
              refine P_getf (i := 6) d_Reader_readMap_129 ok_Reader (by decide) L_Reader_37 ((hG10.2 _ (SMk_f (by omega))).trans k7) rfl ?_
              refine P_aload_n d_Reader_readMap_132 rfl ?_
              refine P_getf (i := 5) d_Reader_readMap_133 ok_Reader (by decide) L_Reader_22 ((hG10.2 _ (SMk_f (by omega))).trans k7) rfl ?_
              refine P_callV (M := M_Reader_readMap) (pc := 136) (as := [.ref 168]) (b := b) d_Reader_readMap_136 co_Plane_addMap ok_Plane ((hG10.2 _ (SMk_f (by omega))).trans ((hG7.2 _ (SR1_f (by omega))).trans ((hG5.2 _ (SR1_f (by omega))).trans ((hG3.2 _ (SR1_f (by omega))).trans ((hG2.2 _ (SR1_f (by omega))).trans eb))))) L_Reader_143 im_Plane_addMap se_Plane_addMap (s_Plane_addMap hI10 hb ((hG10.2 _ (SMk_f (by omega))).trans ((hG7.2 _ (SR1_f (by omega))).trans ((hG5.2 _ (SR1_f (by omega))).trans ((hG3.2 _ (SR1_f (by omega))).trans ((hG2.2 _ (SR1_f (by omega))).trans eb))))) (by omega) (by omega) (by omega) (by omega) (by decide) kc_168) rfl ⟨by decide, by decide⟩ ⟨by decide, by decide⟩ (by exact le_b rfl) ?_ _ rfl
              rintro _ w14 ⟨rfl, hI14, hG14, m14, hm14, hn14, k14⟩
              have hF14 : Fr (SR2 b) w w14 := Fr.tr hF10 (Fr.q2 hG14)
              show PW _ _ _ _ _ _ (139, [(0, .ref 164), (1, .int (nI v5N)), (2, .int (nI v7N))], [], w14)
              refine P_aload_n d_Reader_readMap_139 rfl ?_
              refine P_callV (M := M_Reader_readMap) (pc := 140) (as := []) (b := 164) d_Reader_readMap_140 co_Reader_next ok_Reader ((hG14.2 _ (SQ_f (by omega))).trans ((hG10.2 _ (SMk_f (by omega))).trans k7)) L_Reader_66 im_Reader_next se_Reader_next (s_Reader_next hI14 (ta := ta7) hb hen (by omega) ((hG14.2 _ (SQ_f (by omega))).trans ((hG10.2 _ (SMk_f (by omega))).trans k7))) rfl ⟨by decide, by decide⟩ ⟨by decide, by decide⟩ (by exact le_b rfl) ?_ _ rfl
              rintro _ w15 ⟨rfl, hI15, hG15, ⟨ta15, tk15, tp15, vl15, fa15, fp15, ha15, k15⟩⟩
              have hF15 : Fr (SR2 b) w w15 := Fr.tr hF14 (Fr.r12 hG15)
              show PW _ _ _ _ _ _ (143, [(0, .ref 164), (1, .int (nI v5N)), (2, .int (nI v7N))], [], w15)
              refine P_iconst (v := 1) d_Reader_readMap_143 (by decide) ?_
              exact P_zret d_Reader_readMap_144 rfl rfl (le_b rfl) (le_b rfl) ⟨⟨true, rfl⟩, hI15, hF15, ⟨ta15, _, _, _, _, _, by omega, k15⟩, qc, m14, pc, by omega, by omega, by omega, ((hG15.2 _ (SR1_f (by omega))).trans k14)⟩
            · refine P_aload_n d_Reader_readMap_122 rfl ?_
              refine P_iconst (v := 4) d_Reader_readMap_123 (by decide) ?_
              refine P_callV (M := M_Reader_readMap) (pc := 124) (as := [.int 4]) (b := 164) d_Reader_readMap_124 co_Reader_refuse ok_Reader ((hG10.2 _ (SMk_f (by omega))).trans k7) L_Reader_88 im_Reader_refuse se_Reader_refuse (s_Reader_refuse hI10 (ta := ta7) hb hen (by omega) ((hG10.2 _ (SMk_f (by omega))).trans k7) 4) rfl ⟨by decide, by decide⟩ ⟨by decide, by decide⟩ (by exact le_b rfl) ?_ _ rfl
              rintro _ w16 ⟨⟨v16, rfl⟩, hI16, hG16, ⟨ta16, tk16, tp16, vl16, fa16, fp16, ha16, k16⟩⟩
              have hF16 : Fr (SR2 b) w w16 := Fr.tr hF10 (Fr.r12 hG16)
              show PW _ _ _ _ _ _ (127, [(0, .ref 164), (1, .int (nI v5N)), (2, .int (nI v7N))], [.int (bi v16)], w16)
              exact P_zret d_Reader_readMap_127 rfl (nar_bi _) (le_b rfl) (le_b rfl) ⟨⟨_, rfl⟩, hI16, hF16, ⟨ta16, _, _, _, _, _, by omega, k16⟩, qc, mc, pc, by omega, by omega, by omega, ((hG16.2 _ (SR1_f (by omega))).trans ((hG10.2 _ (SMk_f (by omega))).trans ((hG7.2 _ (SR1_f (by omega))).trans ((hG5.2 _ (SR1_f (by omega))).trans ((hG3.2 _ (SR1_f (by omega))).trans ((hG2.2 _ (SR1_f (by omega))).trans eb))))))⟩
          · refine P_aload_n d_Reader_readMap_76 rfl ?_
            refine P_iconst (v := 1) d_Reader_readMap_77 (by decide) ?_
            refine P_callV (M := M_Reader_readMap) (pc := 78) (as := [.int 1]) (b := 164) d_Reader_readMap_78 co_Reader_refuse ok_Reader k7 L_Reader_88 im_Reader_refuse se_Reader_refuse (s_Reader_refuse hI7 (ta := ta7) hb hen (by omega) k7 1) rfl ⟨by decide, by decide⟩ ⟨by decide, by decide⟩ (by exact le_b rfl) ?_ _ rfl
            rintro _ w17 ⟨⟨v17, rfl⟩, hI17, hG17, ⟨ta17, tk17, tp17, vl17, fa17, fp17, ha17, k17⟩⟩
            have hF17 : Fr (SR2 b) w w17 := Fr.tr hF7 (Fr.r12 hG17)
            show PW _ _ _ _ _ _ (81, [(0, .ref 164), (1, .int (nI v5N)), (2, .int (nI v7N))], [.int (bi v17)], w17)
            exact P_zret d_Reader_readMap_81 rfl (nar_bi _) (le_b rfl) (le_b rfl) ⟨⟨_, rfl⟩, hI17, hF17, ⟨ta17, _, _, _, _, _, by omega, k17⟩, qc, mc, pc, by omega, by omega, by omega, ((hG17.2 _ (SR1_f (by omega))).trans ((hG7.2 _ (SR1_f (by omega))).trans ((hG5.2 _ (SR1_f (by omega))).trans ((hG3.2 _ (SR1_f (by omega))).trans ((hG2.2 _ (SR1_f (by omega))).trans eb)))))⟩
        · refine P_iconst (v := 0) d_Reader_readMap_66 (by decide) ?_
          exact P_zret d_Reader_readMap_67 rfl rfl (le_b rfl) (le_b rfl) ⟨⟨false, rfl⟩, hI7, hF7, ⟨ta7, _, _, _, _, _, by omega, k7⟩, qc, mc, pc, by omega, by omega, by omega, ((hG7.2 _ (SR1_f (by omega))).trans ((hG5.2 _ (SR1_f (by omega))).trans ((hG3.2 _ (SR1_f (by omega))).trans ((hG2.2 _ (SR1_f (by omega))).trans eb))))⟩
      · refine P_iconst (v := (-1)) d_Reader_readMap_52 (by decide) ?_
        refine P_goto 60 d_Reader_readMap_53 (by decide) ?_
        refine P_istore_n d_Reader_readMap_60 (by decide) rfl ?_
        refine P_iload_n d_Reader_readMap_61 rfl ?_
        refine P_iconst (v := (-1)) d_Reader_readMap_62 (by decide) ?_
        refine P_icmp_ne 68 d_Reader_readMap_63 (by decide) (fun h => absurd (by decide) h) (fun _ => ?_)
        refine P_iconst (v := 0) d_Reader_readMap_66 (by decide) ?_
        exact P_zret d_Reader_readMap_67 rfl rfl (le_b rfl) (le_b rfl) ⟨⟨false, rfl⟩, hI5, hF5, ⟨ta5, _, _, _, _, _, by omega, k5⟩, qc, mc, pc, by omega, by omega, by omega, ((hG5.2 _ (SR1_f (by omega))).trans ((hG3.2 _ (SR1_f (by omega))).trans ((hG2.2 _ (SR1_f (by omega))).trans eb)))⟩
    · refine P_iconst (v := 0) d_Reader_readMap_40 (by decide) ?_
      exact P_zret d_Reader_readMap_41 rfl rfl (le_b rfl) (le_b rfl) ⟨⟨false, rfl⟩, hI3, hF3, ⟨ta3, _, _, _, _, _, by omega, k3⟩, qc, mc, pc, by omega, by omega, by omega, ((hG3.2 _ (SR1_f (by omega))).trans ((hG2.2 _ (SR1_f (by omega))).trans eb))⟩
  · have ic1 : mc = 8 := (nI_eq (by omega) (by omega)).mp c1
    refine P_aload_n d_Reader_readMap_12 rfl ?_
    refine P_iconst (v := 2) d_Reader_readMap_13 (by decide) ?_
    refine P_callV (M := M_Reader_readMap) (pc := 14) (as := [.int 2]) (b := 164) d_Reader_readMap_14 co_Reader_refuse ok_Reader er L_Reader_88 im_Reader_refuse se_Reader_refuse (s_Reader_refuse hI (ta := ta) hb hen (by omega) er 2) rfl ⟨by decide, by decide⟩ ⟨by decide, by decide⟩ (by exact le_b rfl) ?_ _ rfl
    rintro _ w18 ⟨⟨v18, rfl⟩, hI18, hG18, ⟨ta18, tk18, tp18, vl18, fa18, fp18, ha18, k18⟩⟩
    have hF18 : Fr (SR2 b) w w18 := Fr.tr Fr.rf (Fr.r12 hG18)
    show PW _ _ _ _ _ _ (17, [(0, .ref 164)], [.int (bi v18)], w18)
    exact P_zret d_Reader_readMap_17 rfl (nar_bi _) (le_b rfl) (le_b rfl) ⟨⟨_, rfl⟩, hI18, hF18, ⟨ta18, _, _, _, _, _, by omega, k18⟩, qc, mc, pc, by omega, by omega, by omega, ((hG18.2 _ (SR1_f (by omega))).trans eb)⟩
theorem s_Reader_readPoint {G : pG} {w : pW} (hG : GO G) (hI : I w) {b en ta : Nat} (hb : b = 1 ∨ b = 77) (hen : en ≤ 900) (hat : ta ≤ en) {tk tp vl fa fp : Int32} (er : w.2 164 = rdI b (nI en) (nI ta) tk tp vl fa fp) {lc qc mc pc : Nat} (eb : w.2 b = plE b lc qc mc pc) (hlc : lc ≤ 900) (hqc : qc ≤ 8) (hmc : mc ≤ 8) (hpc : pc ≤ 8) : PM G M_Reader_readPoint 4 0 0 [.ref 164] w (fun r w' => (∃ v, r = some (.int (bi v))) ∧ I w' ∧ Fr (SR2 b) w w' ∧ RS b en (w'.2 164) ∧ PS b lc (w'.2 b)) := by
  refine PM_of pn_Reader_readPoint (le_b rfl) ?_
  show PW _ _ _ _ _ _ (0, [(0, .ref 164)], [], w)
  obtain ⟨hb1, hb2⟩ := pl_rng hb
  refine P_aload_n d_Reader_readPoint_0 rfl ?_
  refine P_getf (i := 6) d_Reader_readPoint_1 ok_Reader (by decide) L_Reader_37 er rfl ?_
  refine P_getfN (i := 6) d_Reader_readPoint_4 ok_Plane (by decide) L_Reader_147 eb rfl ?_
  refine P_bipush (v := 8) d_Reader_readPoint_7 (by decide) ?_
  refine P_icmp_ne 18 d_Reader_readPoint_9 (by decide) (fun c1 => ?_) (fun c1 => ?_)
  · have ic1 : pc ≠ 8 := fun q => c1 (congrArg nI q)
    refine P_aload_n d_Reader_readPoint_18 rfl ?_
    refine P_callV (M := M_Reader_readPoint) (pc := 19) (as := []) (b := 164) d_Reader_readPoint_19 co_Reader_next ok_Reader er L_Reader_66 im_Reader_next se_Reader_next (s_Reader_next hI (ta := ta) hb hen (by omega) er) rfl ⟨by decide, by decide⟩ ⟨by decide, by decide⟩ (by exact le_b rfl) ?_ _ rfl
    rintro _ w2 ⟨rfl, hI2, hG2, ⟨ta2, tk2, tp2, vl2, fa2, fp2, ha2, k2⟩⟩
    have hF2 : Fr (SR2 b) w w2 := Fr.tr Fr.rf (Fr.r12 hG2)
    show PW _ _ _ _ _ _ (22, [(0, .ref 164)], [], w2)
    refine P_aload_n d_Reader_readPoint_22 rfl ?_
    refine P_iconst (v := 3) d_Reader_readPoint_23 (by decide) ?_
    refine P_sipush (v := 9999) d_Reader_readPoint_24 (by decide) ?_
    refine P_callV (M := M_Reader_readPoint) (pc := 27) (as := [.int 3, .int 9999]) (b := 164) d_Reader_readPoint_27 co_Reader_readNumbers ok_Reader k2 L_Reader_105 im_Reader_readNumbers se_Reader_readNumbers (s_Reader_readNumbers hI2 (ta := ta2) hb hen (by omega) k2 3 (by decide) 9999) rfl ⟨by decide, by decide⟩ ⟨by decide, by decide⟩ (by exact le_b rfl) ?_ _ rfl
    rintro _ w3 ⟨⟨v3, rfl⟩, hI3, hG3, ⟨ta3, tk3, tp3, vl3, fa3, fp3, ha3, k3⟩⟩
    have hF3 : Fr (SR2 b) w w3 := Fr.tr hF2 (Fr.r12 hG3)
    show PW _ _ _ _ _ _ (30, [(0, .ref 164)], [.int (bi v3)], w3)
    refine P_if_ne 35 d_Reader_readPoint_30 (by decide) (fun c4 => ?_) (fun c4 => ?_)
    · refine P_aload_n d_Reader_readPoint_35 rfl ?_
      refine P_getf (i := 9) d_Reader_readPoint_36 ok_Reader (by decide) L_Reader_69 k3 rfl ?_
      refine P_iconst (v := 1) d_Reader_readPoint_39 (by decide) ?_
      refine P_icmp_eq 49 d_Reader_readPoint_40 (by decide) (fun c5 => ?_) (fun c5 => ?_)
      · refine P_aload_n d_Reader_readPoint_49 rfl ?_
        refine P_getf (i := 4) d_Reader_readPoint_50 ok_Reader (by decide) L_Reader_18 k3 rfl ?_
        obtain ⟨f6, f6e⟩ := hI3.row (r := 167) (by decide) kc_167
        refine P_callS (M := M_Reader_readPoint) (pc := 53) (as := [.ref 167]) d_Reader_readPoint_53 co_Rows_greatest L_Reader_150 sm_Rows_greatest (s_Rows_greatest (by decide) (by decide) f6e) rfl ⟨by decide, by decide⟩ ⟨by decide, by decide⟩ (by exact le_b rfl) ?_ _ rfl
        rintro _ u ⟨⟨v7, rfl⟩, eu⟩
        subst u
        show PW _ _ _ _ _ _ (56, [(0, .ref 164)], [.long v7], w3)
        refine P_lconst (v := 0) d_Reader_readPoint_56 (by decide) ?_
        refine P_lcmp d_Reader_readPoint_57 ?_
        refine P_if_ne 67 d_Reader_readPoint_58 (by decide) (fun c8 => ?_) (fun c8 => ?_)
        · refine P_aload_n d_Reader_readPoint_67 rfl ?_
          refine P_getf (i := 6) d_Reader_readPoint_68 ok_Reader (by decide) L_Reader_37 k3 rfl ?_
          refine P_aload_n d_Reader_readPoint_71 rfl ?_
          refine P_getf (i := 4) d_Reader_readPoint_72 ok_Reader (by decide) L_Reader_18 k3 rfl ?_
          refine P_callV (M := M_Reader_readPoint) (pc := 75) (as := [.ref 167]) (b := b) d_Reader_readPoint_75 co_Plane_addPoint ok_Plane ((hG3.2 _ (SR1_f (by omega))).trans ((hG2.2 _ (SR1_f (by omega))).trans eb)) L_Reader_154 im_Plane_addPoint se_Plane_addPoint (s_Plane_addPoint hI3 hb ((hG3.2 _ (SR1_f (by omega))).trans ((hG2.2 _ (SR1_f (by omega))).trans eb)) (by omega) (by omega) (by omega) (by omega) (by decide) kc_167 (by omega)) rfl ⟨by decide, by decide⟩ ⟨by decide, by decide⟩ (by exact le_b rfl) ?_ _ rfl
          rintro _ w9 ⟨rfl, hI9, hG9, k9⟩
          have hF9 : Fr (SR2 b) w w9 := Fr.tr hF3 (Fr.q2 hG9)
          show PW _ _ _ _ _ _ (78, [(0, .ref 164)], [], w9)
          refine P_aload_n d_Reader_readPoint_78 rfl ?_
          refine P_callV (M := M_Reader_readPoint) (pc := 79) (as := []) (b := 164) d_Reader_readPoint_79 co_Reader_next ok_Reader ((hG9.2 _ (SQ_f (by omega))).trans k3) L_Reader_66 im_Reader_next se_Reader_next (s_Reader_next hI9 (ta := ta3) hb hen (by omega) ((hG9.2 _ (SQ_f (by omega))).trans k3)) rfl ⟨by decide, by decide⟩ ⟨by decide, by decide⟩ (by exact le_b rfl) ?_ _ rfl
          rintro _ w10 ⟨rfl, hI10, hG10, ⟨ta10, tk10, tp10, vl10, fa10, fp10, ha10, k10⟩⟩
          have hF10 : Fr (SR2 b) w w10 := Fr.tr hF9 (Fr.r12 hG10)
          show PW _ _ _ _ _ _ (82, [(0, .ref 164)], [], w10)
          refine P_iconst (v := 1) d_Reader_readPoint_82 (by decide) ?_
          exact P_zret d_Reader_readPoint_83 rfl rfl (le_b rfl) (le_b rfl) ⟨⟨true, rfl⟩, hI10, hF10, ⟨ta10, _, _, _, _, _, by omega, k10⟩, qc, mc, (pc + 1), by omega, by omega, by omega, ((hG10.2 _ (SR1_f (by omega))).trans k9)⟩
        · refine P_aload_n d_Reader_readPoint_61 rfl ?_
          refine P_iconst (v := 4) d_Reader_readPoint_62 (by decide) ?_
          refine P_callV (M := M_Reader_readPoint) (pc := 63) (as := [.int 4]) (b := 164) d_Reader_readPoint_63 co_Reader_refuse ok_Reader k3 L_Reader_88 im_Reader_refuse se_Reader_refuse (s_Reader_refuse hI3 (ta := ta3) hb hen (by omega) k3 4) rfl ⟨by decide, by decide⟩ ⟨by decide, by decide⟩ (by exact le_b rfl) ?_ _ rfl
          rintro _ w11 ⟨⟨v11, rfl⟩, hI11, hG11, ⟨ta11, tk11, tp11, vl11, fa11, fp11, ha11, k11⟩⟩
          have hF11 : Fr (SR2 b) w w11 := Fr.tr hF3 (Fr.r12 hG11)
          show PW _ _ _ _ _ _ (66, [(0, .ref 164)], [.int (bi v11)], w11)
          exact P_zret d_Reader_readPoint_66 rfl (nar_bi _) (le_b rfl) (le_b rfl) ⟨⟨_, rfl⟩, hI11, hF11, ⟨ta11, _, _, _, _, _, by omega, k11⟩, qc, mc, pc, by omega, by omega, by omega, ((hG11.2 _ (SR1_f (by omega))).trans ((hG3.2 _ (SR1_f (by omega))).trans ((hG2.2 _ (SR1_f (by omega))).trans eb)))⟩
      · refine P_aload_n d_Reader_readPoint_43 rfl ?_
        refine P_iconst (v := 1) d_Reader_readPoint_44 (by decide) ?_
        refine P_callV (M := M_Reader_readPoint) (pc := 45) (as := [.int 1]) (b := 164) d_Reader_readPoint_45 co_Reader_refuse ok_Reader k3 L_Reader_88 im_Reader_refuse se_Reader_refuse (s_Reader_refuse hI3 (ta := ta3) hb hen (by omega) k3 1) rfl ⟨by decide, by decide⟩ ⟨by decide, by decide⟩ (by exact le_b rfl) ?_ _ rfl
        rintro _ w12 ⟨⟨v12, rfl⟩, hI12, hG12, ⟨ta12, tk12, tp12, vl12, fa12, fp12, ha12, k12⟩⟩
        have hF12 : Fr (SR2 b) w w12 := Fr.tr hF3 (Fr.r12 hG12)
        show PW _ _ _ _ _ _ (48, [(0, .ref 164)], [.int (bi v12)], w12)
        exact P_zret d_Reader_readPoint_48 rfl (nar_bi _) (le_b rfl) (le_b rfl) ⟨⟨_, rfl⟩, hI12, hF12, ⟨ta12, _, _, _, _, _, by omega, k12⟩, qc, mc, pc, by omega, by omega, by omega, ((hG12.2 _ (SR1_f (by omega))).trans ((hG3.2 _ (SR1_f (by omega))).trans ((hG2.2 _ (SR1_f (by omega))).trans eb)))⟩
    · refine P_iconst (v := 0) d_Reader_readPoint_33 (by decide) ?_
      exact P_zret d_Reader_readPoint_34 rfl rfl (le_b rfl) (le_b rfl) ⟨⟨false, rfl⟩, hI3, hF3, ⟨ta3, _, _, _, _, _, by omega, k3⟩, qc, mc, pc, by omega, by omega, by omega, ((hG3.2 _ (SR1_f (by omega))).trans ((hG2.2 _ (SR1_f (by omega))).trans eb))⟩
  · have ic1 : pc = 8 := (nI_eq (by omega) (by omega)).mp c1
    refine P_aload_n d_Reader_readPoint_12 rfl ?_
    refine P_iconst (v := 2) d_Reader_readPoint_13 (by decide) ?_
    refine P_callV (M := M_Reader_readPoint) (pc := 14) (as := [.int 2]) (b := 164) d_Reader_readPoint_14 co_Reader_refuse ok_Reader er L_Reader_88 im_Reader_refuse se_Reader_refuse (s_Reader_refuse hI (ta := ta) hb hen (by omega) er 2) rfl ⟨by decide, by decide⟩ ⟨by decide, by decide⟩ (by exact le_b rfl) ?_ _ rfl
    rintro _ w13 ⟨⟨v13, rfl⟩, hI13, hG13, ⟨ta13, tk13, tp13, vl13, fa13, fp13, ha13, k13⟩⟩
    have hF13 : Fr (SR2 b) w w13 := Fr.tr Fr.rf (Fr.r12 hG13)
    show PW _ _ _ _ _ _ (17, [(0, .ref 164)], [.int (bi v13)], w13)
    exact P_zret d_Reader_readPoint_17 rfl (nar_bi _) (le_b rfl) (le_b rfl) ⟨⟨_, rfl⟩, hI13, hF13, ⟨ta13, _, _, _, _, _, by omega, k13⟩, qc, mc, pc, by omega, by omega, by omega, ((hG13.2 _ (SR1_f (by omega))).trans eb)⟩
theorem s_Plane_clear {G : pG} {w : pW} (hI : I w) {b : Nat} (hb : b = 1 ∨ b = 77) {lc qc mc pc : Nat} (eb : w.2 b = plE b lc qc mc pc) (hlc : lc ≤ 900) (hqc : qc ≤ 8) (hmc : mc ≤ 16) (hpc : pc ≤ 8) : PM G M_Plane_clear 0 0 0 [.ref b] w (fun r w' => r = none ∧ I w' ∧ Fr (SQ b) w w' ∧ w'.2 b = plE b 0 0 0 0) := by
  refine PM_of pn_Plane_clear (le_b rfl) ?_
  show PW _ _ _ _ _ _ (0, [(0, .ref b)], [], w)
  obtain ⟨hb1, hb2⟩ := pl_rng hb
  refine P_aload_n d_Plane_clear_0 rfl ?_
  refine P_iconst (v := 0) d_Plane_clear_1 (by decide) ?_
  refine P_putG (i := 3) d_Plane_clear_2 ok_Plane (by decide) rfl L_Plane_26 eb (fun _ => rfl) (fun _ => rfl) (fun w1 e1 s1 n1 z1 => ?_)
  have hI1 : I w1 := hI.setP hb (show w1 = (_, wu _ b (plE b 0 qc mc pc)) from e1) (by omega) (by omega) (by omega) (by omega)
  have hF1 : Fr (SQ b) w w1 := Fr.set Fr.rf e1 (SQ_t (by omega))
  show PW _ _ _ _ _ _ (5, [(0, .ref b)], [], w1)
  refine P_aload_n d_Plane_clear_5 rfl ?_
  refine P_iconst (v := 0) d_Plane_clear_6 (by decide) ?_
  refine P_putG (i := 4) d_Plane_clear_7 ok_Plane (by decide) rfl L_Plane_30 s1 (fun _ => rfl) (fun _ => rfl) (fun w2 e2 s2 n2 z2 => ?_)
  have hI2 : I w2 := hI1.setP hb (show w2 = (_, wu _ b (plE b 0 0 mc pc)) from e2) (by omega) (by omega) (by omega) (by omega)
  have hF2 : Fr (SQ b) w w2 := Fr.set hF1 e2 (SQ_t (by omega))
  show PW _ _ _ _ _ _ (10, [(0, .ref b)], [], w2)
  refine P_aload_n d_Plane_clear_10 rfl ?_
  refine P_iconst (v := 0) d_Plane_clear_11 (by decide) ?_
  refine P_putG (i := 5) d_Plane_clear_12 ok_Plane (by decide) rfl L_Plane_33 s2 (fun _ => rfl) (fun _ => rfl) (fun w3 e3 s3 n3 z3 => ?_)
  have hI3 : I w3 := hI2.setP hb (show w3 = (_, wu _ b (plE b 0 0 0 pc)) from e3) (by omega) (by omega) (by omega) (by omega)
  have hF3 : Fr (SQ b) w w3 := Fr.set hF2 e3 (SQ_t (by omega))
  show PW _ _ _ _ _ _ (15, [(0, .ref b)], [], w3)
  refine P_aload_n d_Plane_clear_15 rfl ?_
  refine P_iconst (v := 0) d_Plane_clear_16 (by decide) ?_
  refine P_putG (i := 6) d_Plane_clear_17 ok_Plane (by decide) rfl L_Plane_36 s3 (fun _ => rfl) (fun _ => rfl) (fun w4 e4 s4 n4 z4 => ?_)
  have hI4 : I w4 := hI3.setP hb (show w4 = (_, wu _ b (plE b 0 0 0 0)) from e4) (by omega) (by omega) (by omega) (by omega)
  have hF4 : Fr (SQ b) w w4 := Fr.set hF3 e4 (SQ_t (by omega))
  show PW _ _ _ _ _ _ (20, [(0, .ref b)], [], w4)
  exact P_vret d_Plane_clear_20 rfl (le_b rfl) (le_b rfl) ⟨rfl, hI4, hF4, s4⟩
theorem s_Past_forget {G : pG} {w : pW} (hI : I w) {el ct : Nat} {fd : Nat → Int32} (ep : w.2 169 = paE el ct) (he : el ≤ 15) (hc : ct ≤ 16) (ed : w.2 170 = .inl (0, 16, .inl fd)) : PM G M_Past_forget 0 0 0 [.ref 169] w (fun r w' => r = none ∧ I w' ∧ Fr SP w w' ∧ w'.2 169 = paE el 0 ∧ w'.2 170 = .inl (0, 16, .inl fd)) := by
  refine PM_of pn_Past_forget (le_b rfl) ?_
  show PW _ _ _ _ _ _ (0, [(0, .ref 169)], [], w)
  refine P_aload_n d_Past_forget_0 rfl ?_
  refine P_iconst (v := 0) d_Past_forget_1 (by decide) ?_
  refine P_putG (i := 4) d_Past_forget_2 ok_Past (by decide) rfl L_Past_23 ep (fun _ => rfl) (fun _ => rfl) (fun w1 e1 s1 n1 z1 => ?_)
  have hI1 : I w1 := hI.setPa  (show w1 = (_, wu _ 169 (paE el 0)) from e1) (by omega) (by omega)
  have hF1 : Fr SP w w1 := Fr.set Fr.rf e1 (SP_t (by omega))
  show PW _ _ _ _ _ _ (5, [(0, .ref 169)], [], w1)
  exact P_vret d_Past_forget_5 rfl (le_b rfl) (le_b rfl) ⟨rfl, hI1, hF1, s1, ((w_n e1 _ (by decide)).trans ed)⟩
