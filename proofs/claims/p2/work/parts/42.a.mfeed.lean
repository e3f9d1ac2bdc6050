/-! the reference: feed (by program) -/
theorem s_MD_feed {G : pG} {w : pW} (hI : I w) {tp qs un : Nat} {nq ln nl sz at_ pl so vl wo fa fp lf lp th rm um sm : Int32} (em : w.2 467 = mO (nI tp) (nI qs) nq (nI un) ln nl sz at_ pl so vl wo fa fp lf lp th rm um sm) (htp : tp ≤ 900) (hqs : qs ≤ 8) (hun : un ≤ 16) (a1 : Int32) (a2 : Int32) (a3 : Int32) (a4 : Int32) (a5 : Int32) : PM G M_MD_feed 0 0 0 [.ref 467, .int a1, .int a2, .int a3, .int a4, .int a5] w (fun r w' => r = some (.int (fdR tp)) ∧ I w' ∧ Fr SF w w' ∧ MS (nI (fdL tp)) (nI qs) nq (nI un) ln nl sz at_ pl so vl wo fa fp lf lp (w'.2 467)) := by
  refine PM_of pn_MD_feed (le_b rfl) ?_
  show PW _ _ _ _ _ _ (0, [(0, .ref 467), (1, .int a1), (2, .int a2), (3, .int a3), (4, .int a4), (5, .int a5)], [], w)
  refine P_aload_n d_MD_feed_0 rfl ?_
  refine P_iconst (v := 0) d_MD_feed_1 (by decide) ?_
  refine P_putG (i := 0) d_MD_feed_2 ok_Model (by decide) rfl L_MD_74 em (fun _ => rfl) (fun _ => rfl) (fun w1 e1 s1 n1 z1 => ?_)
  have hI1 : I w1 := hI.setM (show w1 = (_, wu _ 467 (mO (nI tp) (nI qs) nq (nI un) ln nl sz at_ pl so vl wo fa fp lf lp 0 rm um sm)) from e1) (by omega) (by omega) (by omega)
  have hF1 : Fr SF w w1 := Fr.set Fr.rf e1 (SF_t (by omega))
  show PW _ _ _ _ _ _ (5, [(0, .ref 467), (1, .int a1), (2, .int a2), (3, .int a3), (4, .int a4), (5, .int a5)], [], w1)
  refine P_aload_n d_MD_feed_5 rfl ?_
  refine P_getf (i := 2) d_MD_feed_6 ok_Model (by decide) L_MD_77 s1 rfl ?_
  refine P_sipush (v := 880) d_MD_feed_9 (by decide) ?_
  refine P_icmp_le 17 d_MD_feed_12 (by decide) (fun c2 => ?_) (fun c2 => ?_)
  · have ic2 : tp ≤ 880 := nI_let (by omega) (by omega) c2
    refine P_iconst (v := 0) d_MD_feed_17 (by decide) ?_
    refine P_istore d_MD_feed_18 (by decide) rfl ?_
    refine PW_ind (σ := pW) (20) (fun jj ss => I (ss) ∧ Fr SF w (ss) ∧ MS (nI tp) (nI qs) nq (nI un) ln nl sz at_ pl so vl wo fa fp lf lp ((ss).2 467)) (fun jj ss => (20, [(0, .ref 467), (1, .int a1), (2, .int a2), (3, .int a3), (4, .int a4), (5, .int a5), (6, .int (nI jj))], [], ss)) ?_ ?_ 0 (w1) (by omega) ⟨hI1, hF1, ⟨_, _, _, _, s1⟩⟩
    · rintro uj3 ⟨hIj3, hFj3, ⟨thj3, rmj3, umj3, smj3, emj3⟩⟩
      show PW _ _ _ _ _ _ (20, [(0, .ref 467), (1, .int a1), (2, .int a2), (3, .int a3), (4, .int a4), (5, .int a5), (6, .int 20)], [], uj3)
      refine P_iload d_MD_feed_20 rfl ?_
      refine P_bipush (v := 20) d_MD_feed_22 (by decide) ?_
      refine P_icmp_ge 110 d_MD_feed_24 (by decide) (fun _ => ?_) (fun h => absurd (by decide) h)
      refine P_aload_n d_MD_feed_110 rfl ?_
      refine P_dup d_MD_feed_111 rfl ?_
      refine P_getf (i := 2) d_MD_feed_112 ok_Model (by decide) L_MD_77 emj3 rfl ?_
      refine P_bipush (v := 20) d_MD_feed_115 (by decide) ?_
      refine P_iaddN (a := tp) (b := 20) d_MD_feed_117 ?_
      show PW _ _ _ _ _ _ (118, [(0, .ref 467), (1, .int a1), (2, .int a2), (3, .int a3), (4, .int a4), (5, .int a5), (6, .int 20)], [.int (nI (tp + 20)), .ref 467], uj3)
      refine P_putG (i := 2) d_MD_feed_118 ok_Model (by decide) rfl L_MD_77 emj3 (fun _ => rfl) (fun _ => rfl) (fun w4 e4 s4 n4 z4 => ?_)
      have hI4 : I w4 := hIj3.setM (show w4 = (_, wu _ 467 (mO (nI (tp + 20)) (nI qs) nq (nI un) ln nl sz at_ pl so vl wo fa fp lf lp thj3 rmj3 umj3 smj3)) from e4) (by omega) (by omega) (by omega)
      have hF4 : Fr SF w w4 := Fr.set hFj3 e4 (SF_t (by omega))
      show PW _ _ _ _ _ _ (121, [(0, .ref 467), (1, .int a1), (2, .int a2), (3, .int a3), (4, .int a4), (5, .int a5), (6, .int 20)], [], w4)
      refine P_aload_n d_MD_feed_121 rfl ?_
      refine P_getf (i := 2) d_MD_feed_122 ok_Model (by decide) L_MD_77 s4 rfl ?_
      exact P_iret d_MD_feed_125 rfl (le_b rfl) (le_b rfl) ⟨by rw [fdR_t (by omega)], hI4, hF4, by rw [fdL_t (by omega)]; exact ⟨_, _, _, _, s4⟩⟩
    · rintro j3 uj3 hj3 ⟨hIj3, hFj3, ⟨thj3, rmj3, umj3, smj3, emj3⟩⟩ kkj3
      show PW _ _ _ _ _ _ (20, [(0, .ref 467), (1, .int a1), (2, .int a2), (3, .int a3), (4, .int a4), (5, .int a5), (6, .int (nI j3))], [], uj3)
      refine P_iload d_MD_feed_20 rfl ?_
      refine P_bipush (v := 20) d_MD_feed_22 (by decide) ?_
      refine P_icmp_ge 110 d_MD_feed_24 (by decide) (fun h => absurd h (nI_geF (a := j3) (b := 20) (by omega) (by omega))) (fun _ => ?_)
      refine P_iload d_MD_feed_27 rfl ?_
      refine P_iconst (v := 4) d_MD_feed_29 (by decide) ?_
      refine P_icmp_ge 37 d_MD_feed_30 (by decide) (fun c5 => ?_) (fun c5 => ?_)
      · have ic5 : j3 ≥ 4 := nI_get (by omega) (by omega) c5
        refine P_iload d_MD_feed_37 rfl ?_
        refine P_bipush (v := 8) d_MD_feed_39 (by decide) ?_
        refine P_icmp_ge 48 d_MD_feed_41 (by decide) (fun c6 => ?_) (fun c6 => ?_)
        · have ic6 : j3 ≥ 8 := nI_get (by omega) (by omega) c6
          refine P_iload d_MD_feed_48 rfl ?_
          refine P_bipush (v := 12) d_MD_feed_50 (by decide) ?_
          refine P_icmp_ge 59 d_MD_feed_52 (by decide) (fun c7 => ?_) (fun c7 => ?_)
          · have ic7 : j3 ≥ 12 := nI_get (by omega) (by omega) c7
            refine P_iload d_MD_feed_59 rfl ?_
            refine P_bipush (v := 16) d_MD_feed_61 (by decide) ?_
            refine P_icmp_ge 71 d_MD_feed_63 (by decide) (fun c8 => ?_) (fun c8 => ?_)
            · have ic8 : j3 ≥ 16 := nI_get (by omega) (by omega) c8
              refine P_iload d_MD_feed_71 rfl ?_
              refine P_istore d_MD_feed_73 (by decide) rfl ?_
              refine P_aload_n d_MD_feed_75 rfl ?_
              refine P_getf (i := 1) d_MD_feed_76 ok_Model (by decide) L_MD_9 emj3 rfl ?_
              refine P_aload_n d_MD_feed_79 rfl ?_
              refine P_getf (i := 2) d_MD_feed_80 ok_Model (by decide) L_MD_77 emj3 rfl ?_
              refine P_iload d_MD_feed_83 rfl ?_
              refine P_iaddN (a := tp) (b := j3) d_MD_feed_85 ?_
              show PW _ _ _ _ _ _ (86, [(0, .ref 467), (1, .int a1), (2, .int a2), (3, .int a3), (4, .int a4), (5, .int a5), (6, .int (nI j3)), (7, .int a5)], [.int (nI (tp + j3)), .ref 468], uj3)
              refine P_iload d_MD_feed_86 rfl ?_
              refine P_bipush (v := 24) d_MD_feed_88 (by decide) ?_
              refine P_bipush (v := 8) d_MD_feed_90 (by decide) ?_
              refine P_iload d_MD_feed_92 rfl ?_
              refine P_iconst (v := 4) d_MD_feed_94 (by decide) ?_
              refine P_iremN (a := j3) (b := 4) d_MD_feed_95 (by omega) (by omega) (by omega) ?_
              show PW _ _ _ _ _ _ (96, [(0, .ref 467), (1, .int a1), (2, .int a2), (3, .int a3), (4, .int a4), (5, .int a5), (6, .int (nI j3)), (7, .int a5)], [.int (nI (j3 % 4)), .int 8, .int 24, .int a5, .int (nI (tp + j3)), .ref 468], uj3)
              refine P_imulN (a := 8) (b := (j3 % 4)) d_MD_feed_96 ?_
              show PW _ _ _ _ _ _ (97, [(0, .ref 467), (1, .int a1), (2, .int a2), (3, .int a3), (4, .int a4), (5, .int a5), (6, .int (nI j3)), (7, .int a5)], [.int (nI (8 * (j3 % 4))), .int 24, .int a5, .int (nI (tp + j3)), .ref 468], uj3)
              refine P_isub d_MD_feed_97 ?_
              refine P_ishr d_MD_feed_98 ?_
              generalize a5 >>> ((24 - (nI (8 * (j3 % 4)))) &&& 31) = zz9
              show PW _ _ _ _ _ _ (99, [(0, .ref 467), (1, .int a1), (2, .int a2), (3, .int a3), (4, .int a4), (5, .int a5), (6, .int (nI j3)), (7, .int a5)], [.int zz9, .int (nI (tp + j3)), .ref 468], uj3)
              refine P_sipush (v := 255) d_MD_feed_99 (by decide) ?_
              refine P_iand d_MD_feed_102 ?_
              obtain ⟨k10, k10l, k10e⟩ := pk_andE zz9 (m := 255) 8 (by decide)
              rw [k10e]
              have k10l : k10 < 256 := k10l
              show PW _ _ _ _ _ _ (103, [(0, .ref 467), (1, .int a1), (2, .int a2), (3, .int a3), (4, .int a4), (5, .int a5), (6, .int (nI j3)), (7, .int a5)], [.int (nI k10), .int (nI (tp + j3)), .ref 468], uj3)
              obtain ⟨f11, f11e⟩ := hIj3.ints (r := 468) (by decide) kc_468
              refine P_iastG (j := tp + j3) d_MD_feed_103 f11e (by decide) (ix_nI (by omega)) (by omega) (fun w12 e12 s12 n12 z12 => ?_)
              generalize upd _ _ _ = g13 at e12 s12
              have hI12 : I w12 := hIj3.setI e12 kc_468
              have hF12 : Fr SF w w12 := Fr.set hFj3 e12 (SF_t (by omega))
              show PW _ _ _ _ _ _ (104, [(0, .ref 467), (1, .int a1), (2, .int a2), (3, .int a3), (4, .int a4), (5, .int a5), (6, .int (nI j3)), (7, .int a5)], [], w12)
              refine P_iinc (v := nI (j3 + 1)) d_MD_feed_104 (by decide) rfl (nI_add j3 1) rfl ?_
              refine P_goto 20 d_MD_feed_107 (by decide) ?_
              show PW _ _ _ _ _ _ (20, [(0, .ref 467), (1, .int a1), (2, .int a2), (3, .int a3), (4, .int a4), (5, .int a5), (6, .int (nI (j3 + 1))), (7, .int a5)], [], w12)
              refine PW.drop (lv' := [(0, .ref 467), (1, .int a1), (2, .int a2), (3, .int a3), (4, .int a4), (5, .int a5), (6, .int (nI (j3 + 1)))]) (by simp) ?_
              exact kkj3 (w12) ⟨hI12, hF12, ⟨_, _, _, _, ((w_n e12 _ (by decide)).trans emj3)⟩⟩
            · have ic8 : j3 < 16 := nI_gef (by omega) (by omega) c8
              refine P_iload d_MD_feed_66 rfl ?_
              refine P_goto 73 d_MD_feed_68 (by decide) ?_
              refine P_istore d_MD_feed_73 (by decide) rfl ?_
              refine P_aload_n d_MD_feed_75 rfl ?_
              refine P_getf (i := 1) d_MD_feed_76 ok_Model (by decide) L_MD_9 emj3 rfl ?_
              refine P_aload_n d_MD_feed_79 rfl ?_
              refine P_getf (i := 2) d_MD_feed_80 ok_Model (by decide) L_MD_77 emj3 rfl ?_
              refine P_iload d_MD_feed_83 rfl ?_
              refine P_iaddN (a := tp) (b := j3) d_MD_feed_85 ?_
              show PW _ _ _ _ _ _ (86, [(0, .ref 467), (1, .int a1), (2, .int a2), (3, .int a3), (4, .int a4), (5, .int a5), (6, .int (nI j3)), (7, .int a4)], [.int (nI (tp + j3)), .ref 468], uj3)
              refine P_iload d_MD_feed_86 rfl ?_
              refine P_bipush (v := 24) d_MD_feed_88 (by decide) ?_
              refine P_bipush (v := 8) d_MD_feed_90 (by decide) ?_
              refine P_iload d_MD_feed_92 rfl ?_
              refine P_iconst (v := 4) d_MD_feed_94 (by decide) ?_
              refine P_iremN (a := j3) (b := 4) d_MD_feed_95 (by omega) (by omega) (by omega) ?_
              show PW _ _ _ _ _ _ (96, [(0, .ref 467), (1, .int a1), (2, .int a2), (3, .int a3), (4, .int a4), (5, .int a5), (6, .int (nI j3)), (7, .int a4)], [.int (nI (j3 % 4)), .int 8, .int 24, .int a4, .int (nI (tp + j3)), .ref 468], uj3)
              refine P_imulN (a := 8) (b := (j3 % 4)) d_MD_feed_96 ?_
              show PW _ _ _ _ _ _ (97, [(0, .ref 467), (1, .int a1), (2, .int a2), (3, .int a3), (4, .int a4), (5, .int a5), (6, .int (nI j3)), (7, .int a4)], [.int (nI (8 * (j3 % 4))), .int 24, .int a4, .int (nI (tp + j3)), .ref 468], uj3)
              refine P_isub d_MD_feed_97 ?_
              refine P_ishr d_MD_feed_98 ?_
              generalize a4 >>> ((24 - (nI (8 * (j3 % 4)))) &&& 31) = zz14
              show PW _ _ _ _ _ _ (99, [(0, .ref 467), (1, .int a1), (2, .int a2), (3, .int a3), (4, .int a4), (5, .int a5), (6, .int (nI j3)), (7, .int a4)], [.int zz14, .int (nI (tp + j3)), .ref 468], uj3)
              refine P_sipush (v := 255) d_MD_feed_99 (by decide) ?_
              refine P_iand d_MD_feed_102 ?_
              obtain ⟨k15, k15l, k15e⟩ := pk_andE zz14 (m := 255) 8 (by decide)
              rw [k15e]
              have k15l : k15 < 256 := k15l
              show PW _ _ _ _ _ _ (103, [(0, .ref 467), (1, .int a1), (2, .int a2), (3, .int a3), (4, .int a4), (5, .int a5), (6, .int (nI j3)), (7, .int a4)], [.int (nI k15), .int (nI (tp + j3)), .ref 468], uj3)
              obtain ⟨f16, f16e⟩ := hIj3.ints (r := 468) (by decide) kc_468
              refine P_iastG (j := tp + j3) d_MD_feed_103 f16e (by decide) (ix_nI (by omega)) (by omega) (fun w17 e17 s17 n17 z17 => ?_)
              generalize upd _ _ _ = g18 at e17 s17
              have hI17 : I w17 := hIj3.setI e17 kc_468
              have hF17 : Fr SF w w17 := Fr.set hFj3 e17 (SF_t (by omega))
              show PW _ _ _ _ _ _ (104, [(0, .ref 467), (1, .int a1), (2, .int a2), (3, .int a3), (4, .int a4), (5, .int a5), (6, .int (nI j3)), (7, .int a4)], [], w17)
              refine P_iinc (v := nI (j3 + 1)) d_MD_feed_104 (by decide) rfl (nI_add j3 1) rfl ?_
              refine P_goto 20 d_MD_feed_107 (by decide) ?_
              show PW _ _ _ _ _ _ (20, [(0, .ref 467), (1, .int a1), (2, .int a2), (3, .int a3), (4, .int a4), (5, .int a5), (6, .int (nI (j3 + 1))), (7, .int a4)], [], w17)
              refine PW.drop (lv' := [(0, .ref 467), (1, .int a1), (2, .int a2), (3, .int a3), (4, .int a4), (5, .int a5), (6, .int (nI (j3 + 1)))]) (by simp) ?_
              exact kkj3 (w17) ⟨hI17, hF17, ⟨_, _, _, _, ((w_n e17 _ (by decide)).trans emj3)⟩⟩
          · have ic7 : j3 < 12 := nI_gef (by omega) (by omega) c7
            refine P_iload_n d_MD_feed_55 rfl ?_
            refine P_goto 73 d_MD_feed_56 (by decide) ?_
            refine P_istore d_MD_feed_73 (by decide) rfl ?_
            refine P_aload_n d_MD_feed_75 rfl ?_
            refine P_getf (i := 1) d_MD_feed_76 ok_Model (by decide) L_MD_9 emj3 rfl ?_
            refine P_aload_n d_MD_feed_79 rfl ?_
            refine P_getf (i := 2) d_MD_feed_80 ok_Model (by decide) L_MD_77 emj3 rfl ?_
            refine P_iload d_MD_feed_83 rfl ?_
            refine P_iaddN (a := tp) (b := j3) d_MD_feed_85 ?_
            show PW _ _ _ _ _ _ (86, [(0, .ref 467), (1, .int a1), (2, .int a2), (3, .int a3), (4, .int a4), (5, .int a5), (6, .int (nI j3)), (7, .int a3)], [.int (nI (tp + j3)), .ref 468], uj3)
            refine P_iload d_MD_feed_86 rfl ?_
            refine P_bipush (v := 24) d_MD_feed_88 (by decide) ?_
            refine P_bipush (v := 8) d_MD_feed_90 (by decide) ?_
            refine P_iload d_MD_feed_92 rfl ?_
            refine P_iconst (v := 4) d_MD_feed_94 (by decide) ?_
            refine P_iremN (a := j3) (b := 4) d_MD_feed_95 (by omega) (by omega) (by omega) ?_
            show PW _ _ _ _ _ _ (96, [(0, .ref 467), (1, .int a1), (2, .int a2), (3, .int a3), (4, .int a4), (5, .int a5), (6, .int (nI j3)), (7, .int a3)], [.int (nI (j3 % 4)), .int 8, .int 24, .int a3, .int (nI (tp + j3)), .ref 468], uj3)
            refine P_imulN (a := 8) (b := (j3 % 4)) d_MD_feed_96 ?_
            show PW _ _ _ _ _ _ (97, [(0, .ref 467), (1, .int a1), (2, .int a2), (3, .int a3), (4, .int a4), (5, .int a5), (6, .int (nI j3)), (7, .int a3)], [.int (nI (8 * (j3 % 4))), .int 24, .int a3, .int (nI (tp + j3)), .ref 468], uj3)
            refine P_isub d_MD_feed_97 ?_
            refine P_ishr d_MD_feed_98 ?_
            generalize a3 >>> ((24 - (nI (8 * (j3 % 4)))) &&& 31) = zz19
            show PW _ _ _ _ _ _ (99, [(0, .ref 467), (1, .int a1), (2, .int a2), (3, .int a3), (4, .int a4), (5, .int a5), (6, .int (nI j3)), (7, .int a3)], [.int zz19, .int (nI (tp + j3)), .ref 468], uj3)
            refine P_sipush (v := 255) d_MD_feed_99 (by decide) ?_
            refine P_iand d_MD_feed_102 ?_
            obtain ⟨k20, k20l, k20e⟩ := pk_andE zz19 (m := 255) 8 (by decide)
            rw [k20e]
            have k20l : k20 < 256 := k20l
            show PW _ _ _ _ _ _ (103, [(0, .ref 467), (1, .int a1), (2, .int a2), (3, .int a3), (4, .int a4), (5, .int a5), (6, .int (nI j3)), (7, .int a3)], [.int (nI k20), .int (nI (tp + j3)), .ref 468], uj3)
            obtain ⟨f21, f21e⟩ := hIj3.ints (r := 468) (by decide) kc_468
            refine P_iastG (j := tp + j3) d_MD_feed_103 f21e (by decide) (ix_nI (by omega)) (by omega) (fun w22 e22 s22 n22 z22 => ?_)
            generalize upd _ _ _ = g23 at e22 s22
            have hI22 : I w22 := hIj3.setI e22 kc_468
            have hF22 : Fr SF w w22 := Fr.set hFj3 e22 (SF_t (by omega))
            show PW _ _ _ _ _ _ (104, [(0, .ref 467), (1, .int a1), (2, .int a2), (3, .int a3), (4, .int a4), (5, .int a5), (6, .int (nI j3)), (7, .int a3)], [], w22)
            refine P_iinc (v := nI (j3 + 1)) d_MD_feed_104 (by decide) rfl (nI_add j3 1) rfl ?_
            refine P_goto 20 d_MD_feed_107 (by decide) ?_
            show PW _ _ _ _ _ _ (20, [(0, .ref 467), (1, .int a1), (2, .int a2), (3, .int a3), (4, .int a4), (5, .int a5), (6, .int (nI (j3 + 1))), (7, .int a3)], [], w22)
            refine PW.drop (lv' := [(0, .ref 467), (1, .int a1), (2, .int a2), (3, .int a3), (4, .int a4), (5, .int a5), (6, .int (nI (j3 + 1)))]) (by simp) ?_
            exact kkj3 (w22) ⟨hI22, hF22, ⟨_, _, _, _, ((w_n e22 _ (by decide)).trans emj3)⟩⟩
        · have ic6 : j3 < 8 := nI_gef (by omega) (by omega) c6
          refine P_iload_n d_MD_feed_44 rfl ?_
          refine P_goto 73 d_MD_feed_45 (by decide) ?_
          refine P_istore d_MD_feed_73 (by decide) rfl ?_
          refine P_aload_n d_MD_feed_75 rfl ?_
          refine P_getf (i := 1) d_MD_feed_76 ok_Model (by decide) L_MD_9 emj3 rfl ?_
          refine P_aload_n d_MD_feed_79 rfl ?_
          refine P_getf (i := 2) d_MD_feed_80 ok_Model (by decide) L_MD_77 emj3 rfl ?_
          refine P_iload d_MD_feed_83 rfl ?_
          refine P_iaddN (a := tp) (b := j3) d_MD_feed_85 ?_
          show PW _ _ _ _ _ _ (86, [(0, .ref 467), (1, .int a1), (2, .int a2), (3, .int a3), (4, .int a4), (5, .int a5), (6, .int (nI j3)), (7, .int a2)], [.int (nI (tp + j3)), .ref 468], uj3)
          refine P_iload d_MD_feed_86 rfl ?_
          refine P_bipush (v := 24) d_MD_feed_88 (by decide) ?_
          refine P_bipush (v := 8) d_MD_feed_90 (by decide) ?_
          refine P_iload d_MD_feed_92 rfl ?_
          refine P_iconst (v := 4) d_MD_feed_94 (by decide) ?_
          refine P_iremN (a := j3) (b := 4) d_MD_feed_95 (by omega) (by omega) (by omega) ?_
          show PW _ _ _ _ _ _ (96, [(0, .ref 467), (1, .int a1), (2, .int a2), (3, .int a3), (4, .int a4), (5, .int a5), (6, .int (nI j3)), (7, .int a2)], [.int (nI (j3 % 4)), .int 8, .int 24, .int a2, .int (nI (tp + j3)), .ref 468], uj3)
          refine P_imulN (a := 8) (b := (j3 % 4)) d_MD_feed_96 ?_
          show PW _ _ _ _ _ _ (97, [(0, .ref 467), (1, .int a1), (2, .int a2), (3, .int a3), (4, .int a4), (5, .int a5), (6, .int (nI j3)), (7, .int a2)], [.int (nI (8 * (j3 % 4))), .int 24, .int a2, .int (nI (tp + j3)), .ref 468], uj3)
          refine P_isub d_MD_feed_97 ?_
          refine P_ishr d_MD_feed_98 ?_
          generalize a2 >>> ((24 - (nI (8 * (j3 % 4)))) &&& 31) = zz24
          show PW _ _ _ _ _ _ (99, [(0, .ref 467), (1, .int a1), (2, .int a2), (3, .int a3), (4, .int a4), (5, .int a5), (6, .int (nI j3)), (7, .int a2)], [.int zz24, .int (nI (tp + j3)), .ref 468], uj3)
          refine P_sipush (v := 255) d_MD_feed_99 (by decide) ?_
          refine P_iand d_MD_feed_102 ?_
          obtain ⟨k25, k25l, k25e⟩ := pk_andE zz24 (m := 255) 8 (by decide)
          rw [k25e]
          have k25l : k25 < 256 := k25l
          show PW _ _ _ _ _ _ (103, [(0, .ref 467), (1, .int a1), (2, .int a2), (3, .int a3), (4, .int a4), (5, .int a5), (6, .int (nI j3)), (7, .int a2)], [.int (nI k25), .int (nI (tp + j3)), .ref 468], uj3)
          obtain ⟨f26, f26e⟩ := hIj3.ints (r := 468) (by decide) kc_468
          refine P_iastG (j := tp + j3) d_MD_feed_103 f26e (by decide) (ix_nI (by omega)) (by omega) (fun w27 e27 s27 n27 z27 => ?_)
          generalize upd _ _ _ = g28 at e27 s27
          have hI27 : I w27 := hIj3.setI e27 kc_468
          have hF27 : Fr SF w w27 := Fr.set hFj3 e27 (SF_t (by omega))
          show PW _ _ _ _ _ _ (104, [(0, .ref 467), (1, .int a1), (2, .int a2), (3, .int a3), (4, .int a4), (5, .int a5), (6, .int (nI j3)), (7, .int a2)], [], w27)
          refine P_iinc (v := nI (j3 + 1)) d_MD_feed_104 (by decide) rfl (nI_add j3 1) rfl ?_
          refine P_goto 20 d_MD_feed_107 (by decide) ?_
          show PW _ _ _ _ _ _ (20, [(0, .ref 467), (1, .int a1), (2, .int a2), (3, .int a3), (4, .int a4), (5, .int a5), (6, .int (nI (j3 + 1))), (7, .int a2)], [], w27)
          refine PW.drop (lv' := [(0, .ref 467), (1, .int a1), (2, .int a2), (3, .int a3), (4, .int a4), (5, .int a5), (6, .int (nI (j3 + 1)))]) (by simp) ?_
          exact kkj3 (w27) ⟨hI27, hF27, ⟨_, _, _, _, ((w_n e27 _ (by decide)).trans emj3)⟩⟩
      · have ic5 : j3 < 4 := nI_gef (by omega) (by omega) c5
        refine P_iload_n d_MD_feed_33 rfl ?_
        refine P_goto 73 d_MD_feed_34 (by decide) ?_
        refine P_istore d_MD_feed_73 (by decide) rfl ?_
        refine P_aload_n d_MD_feed_75 rfl ?_
        refine P_getf (i := 1) d_MD_feed_76 ok_Model (by decide) L_MD_9 emj3 rfl ?_
        refine P_aload_n d_MD_feed_79 rfl ?_
        refine P_getf (i := 2) d_MD_feed_80 ok_Model (by decide) L_MD_77 emj3 rfl ?_
        refine P_iload d_MD_feed_83 rfl ?_
        refine P_iaddN (a := tp) (b := j3) d_MD_feed_85 ?_
        show PW _ _ _ _ _ _ (86, [(0, .ref 467), (1, .int a1), (2, .int a2), (3, .int a3), (4, .int a4), (5, .int a5), (6, .int (nI j3)), (7, .int a1)], [.int (nI (tp + j3)), .ref 468], uj3)
        refine P_iload d_MD_feed_86 rfl ?_
        refine P_bipush (v := 24) d_MD_feed_88 (by decide) ?_
        refine P_bipush (v := 8) d_MD_feed_90 (by decide) ?_
        refine P_iload d_MD_feed_92 rfl ?_
        refine P_iconst (v := 4) d_MD_feed_94 (by decide) ?_
        refine P_iremN (a := j3) (b := 4) d_MD_feed_95 (by omega) (by omega) (by omega) ?_
        show PW _ _ _ _ _ _ (96, [(0, .ref 467), (1, .int a1), (2, .int a2), (3, .int a3), (4, .int a4), (5, .int a5), (6, .int (nI j3)), (7, .int a1)], [.int (nI (j3 % 4)), .int 8, .int 24, .int a1, .int (nI (tp + j3)), .ref 468], uj3)
        refine P_imulN (a := 8) (b := (j3 % 4)) d_MD_feed_96 ?_
        show PW _ _ _ _ _ _ (97, [(0, .ref 467), (1, .int a1), (2, .int a2), (3, .int a3), (4, .int a4), (5, .int a5), (6, .int (nI j3)), (7, .int a1)], [.int (nI (8 * (j3 % 4))), .int 24, .int a1, .int (nI (tp + j3)), .ref 468], uj3)
        refine P_isub d_MD_feed_97 ?_
        refine P_ishr d_MD_feed_98 ?_
        generalize a1 >>> ((24 - (nI (8 * (j3 % 4)))) &&& 31) = zz29
        show PW _ _ _ _ _ _ (99, [(0, .ref 467), (1, .int a1), (2, .int a2), (3, .int a3), (4, .int a4), (5, .int a5), (6, .int (nI j3)), (7, .int a1)], [.int zz29, .int (nI (tp + j3)), .ref 468], uj3)
        refine P_sipush (v := 255) d_MD_feed_99 (by decide) ?_
        refine P_iand d_MD_feed_102 ?_
        obtain ⟨k30, k30l, k30e⟩ := pk_andE zz29 (m := 255) 8 (by decide)
        rw [k30e]
        have k30l : k30 < 256 := k30l
        show PW _ _ _ _ _ _ (103, [(0, .ref 467), (1, .int a1), (2, .int a2), (3, .int a3), (4, .int a4), (5, .int a5), (6, .int (nI j3)), (7, .int a1)], [.int (nI k30), .int (nI (tp + j3)), .ref 468], uj3)
        obtain ⟨f31, f31e⟩ := hIj3.ints (r := 468) (by decide) kc_468
        refine P_iastG (j := tp + j3) d_MD_feed_103 f31e (by decide) (ix_nI (by omega)) (by omega) (fun w32 e32 s32 n32 z32 => ?_)
        generalize upd _ _ _ = g33 at e32 s32
        have hI32 : I w32 := hIj3.setI e32 kc_468
        have hF32 : Fr SF w w32 := Fr.set hFj3 e32 (SF_t (by omega))
        show PW _ _ _ _ _ _ (104, [(0, .ref 467), (1, .int a1), (2, .int a2), (3, .int a3), (4, .int a4), (5, .int a5), (6, .int (nI j3)), (7, .int a1)], [], w32)
        refine P_iinc (v := nI (j3 + 1)) d_MD_feed_104 (by decide) rfl (nI_add j3 1) rfl ?_
        refine P_goto 20 d_MD_feed_107 (by decide) ?_
        show PW _ _ _ _ _ _ (20, [(0, .ref 467), (1, .int a1), (2, .int a2), (3, .int a3), (4, .int a4), (5, .int a5), (6, .int (nI (j3 + 1))), (7, .int a1)], [], w32)
        refine PW.drop (lv' := [(0, .ref 467), (1, .int a1), (2, .int a2), (3, .int a3), (4, .int a4), (5, .int a5), (6, .int (nI (j3 + 1)))]) (by simp) ?_
        exact kkj3 (w32) ⟨hI32, hF32, ⟨_, _, _, _, ((w_n e32 _ (by decide)).trans emj3)⟩⟩
  · have ic2 : tp > 880 := nI_lef (by omega) (by omega) c2
    refine P_iconst (v := (-1)) d_MD_feed_15 (by decide) ?_
    exact P_iret d_MD_feed_16 rfl (le_b rfl) (le_b rfl) ⟨by rw [fdR_f (by omega)], hI1, hF1, by rw [fdL_f (by omega)]; exact ⟨_, _, _, _, s1⟩⟩
