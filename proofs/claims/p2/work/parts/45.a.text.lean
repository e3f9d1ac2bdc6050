/-! text -/
def SX (i : Nat) : Bool := decide (i < 467)
theorem SX_f {i : Nat} (h : ¬ (i < 467)) : SX i = false := decide_eq_false h
theorem SX_t {i : Nat} (h : i < 467) : SX i = true := decide_eq_true h
theorem Fr.x2 {b : Nat} {w u : pW} (hb : b = 1 ∨ b = 77) (h : Fr (SR2 (78 - b)) w u) : Fr SX w u := h.mono (fun i hi => SX_t (by have := of_decide_eq_true hi; omega))
theorem Fr.xp {w u : pW} (h : Fr SP w u) : Fr SX w u := h.mono (fun i hi => SX_t (by have := of_decide_eq_true hi; omega))
/-- how long the tape is behind text -/
def txL (a : Int32) (tl : Nat) : Nat := if a < 0 then tl else if a ≤ nI tl then 0 else tl
theorem txL_n {a : Int32} {tl : Nat} (h : a < 0) : txL a tl = tl := if_pos h
theorem txL_g {a : Int32} {tl : Nat} (h : ¬ a < 0) (k : ¬ a ≤ nI tl) : txL a tl = tl := (if_neg h).trans (if_neg k)
theorem txL_o {n tl : Nat} (h : n ≤ tl) (k : tl ≤ 900) : txL (nI n) tl = 0 :=
  (if_neg (fun q => by have := nI_ltt (a := n) (b := 0) (by omega) (by omega) q; omega)).trans (if_pos ((nI_leI (by omega) (by omega)).mpr h))
theorem I.cmN {w : pW} (h : I w) : ∃ b : Nat, (b = 1 ∨ b = 77) ∧ w.2 0 = cmE b := h.cm
theorem s_Reader_read {G : pG} {w : pW} (hG : GO G) (hI : I w) {b : Nat} (hb : b = 1 ∨ b = 77) {tl : Nat} (et : w.2 153 = tpE tl) (htl : tl ≤ 900) (en : Nat) (hn : en ≤ tl) : PM G M_Reader_read 6 0 0 [.ref 164, .int (nI en), .ref b] w (fun r w' => (∃ v, r = some (.int (bi v))) ∧ I w' ∧ Fr (SR2 b) w w') := by
  refine PM_of pn_Reader_read (le_b rfl) ?_
  show PW _ _ _ _ _ _ (0, [(0, .ref 164), (1, .int (nI en)), (2, .ref b)], [], w)
  obtain ⟨hb1, hb2⟩ := pl_rng hb
  have hen : en ≤ 900 := by omega
  obtain ⟨lc, qc, mc, pc, eb, hlc, hqc, hmc, hpc⟩ := hI.pl hb
  obtain ⟨rb, y1, y2, y3, y4, y5, y6, y7, hrb, erd⟩ := hI.rdr
  refine P_aload_n d_Reader_read_0 rfl ?_
  refine P_aload_n d_Reader_read_1 rfl ?_
  refine P_putG (i := 6) d_Reader_read_2 ok_Reader (by decide) rfl L_Reader_37 erd (fun _ => rfl) (fun _ => rfl) (fun w1 e1 s1 n1 z1 => ?_)
  have hI1 : I w1 := hI.setR hb (show w1 = (_, wu _ 164 (rdI b y1 y2 y3 y4 y5 y6 y7)) from e1)
  have hF1 : Fr (SR2 b) w w1 := Fr.set Fr.rf e1 (SR2_t (by omega))
  show PW _ _ _ _ _ _ (5, [(0, .ref 164), (1, .int (nI en)), (2, .ref b)], [], w1)
  refine P_aload_n d_Reader_read_5 rfl ?_
  refine P_getf (i := 6) d_Reader_read_6 ok_Reader (by decide) L_Reader_37 s1 rfl ?_
  refine P_callV (M := M_Reader_read) (pc := 9) (as := []) (b := b) d_Reader_read_9 co_Plane_clear ok_Plane ((w_n e1 _ (by omega)).trans eb) L_Reader_41 im_Plane_clear se_Plane_clear (s_Plane_clear hI1 hb ((w_n e1 _ (by omega)).trans eb) (by omega) (by omega) (by omega) (by omega)) rfl ⟨by decide, by decide⟩ ⟨by decide, by decide⟩ (by exact le_b rfl) ?_ _ rfl
  rintro _ w2 ⟨rfl, hI2, hG2, k2⟩
  have hF2 : Fr (SR2 b) w w2 := Fr.tr hF1 (Fr.q2 hG2)
  show PW _ _ _ _ _ _ (12, [(0, .ref 164), (1, .int (nI en)), (2, .ref b)], [], w2)
  refine P_aload_n d_Reader_read_12 rfl ?_
  refine P_iload_n d_Reader_read_13 rfl ?_
  refine P_aload_n d_Reader_read_14 rfl ?_
  refine P_getf (i := 0) d_Reader_read_15 ok_Reader (by decide) L_Reader_29 ((hG2.2 _ (SQ_f (by omega))).trans s1) rfl ?_
  refine P_getfN (i := 1) d_Reader_read_18 ok_Tape (by decide) L_Reader_46 ((hF2.2 _ (SR2_f (by omega))).trans et) rfl ?_
  refine P_mmini d_Reader_read_21 L_Reader_51 st_min in_Math cd_min ⟨by decide, by decide, by decide, by decide⟩ (by exact le_b rfl) ?_
  rw [if_neg (fun q => by have := nI_ltt (a := tl) (b := en) (by omega) (by omega) q; omega)]
  show PW _ _ _ _ _ _ (24, [(0, .ref 164), (1, .int (nI en)), (2, .ref b)], [.int (nI en), .ref 164], w2)
  refine P_putG (i := 7) d_Reader_read_24 ok_Reader (by decide) rfl L_Reader_57 ((hG2.2 _ (SQ_f (by omega))).trans s1) (fun _ => rfl) (fun _ => rfl) (fun w3 e3 s3 n3 z3 => ?_)
  have hI3 : I w3 := hI2.setR hb (show w3 = (_, wu _ 164 (rdI b (nI en) y2 y3 y4 y5 y6 y7)) from e3)
  have hF3 : Fr (SR2 b) w w3 := Fr.set hF2 e3 (SR2_t (by omega))
  show PW _ _ _ _ _ _ (27, [(0, .ref 164), (1, .int (nI en)), (2, .ref b)], [], w3)
  refine P_aload_n d_Reader_read_27 rfl ?_
  refine P_iconst (v := 0) d_Reader_read_28 (by decide) ?_
  refine P_putG (i := 8) d_Reader_read_29 ok_Reader (by decide) rfl L_Reader_60 s3 (fun _ => rfl) (fun _ => rfl) (fun w4 e4 s4 n4 z4 => ?_)
  have hI4 : I w4 := hI3.setR hb (show w4 = (_, wu _ 164 (rdI b (nI en) 0 y3 y4 y5 y6 y7)) from e4)
  have hF4 : Fr (SR2 b) w w4 := Fr.set hF3 e4 (SR2_t (by omega))
  show PW _ _ _ _ _ _ (32, [(0, .ref 164), (1, .int (nI en)), (2, .ref b)], [], w4)
  refine P_aload_n d_Reader_read_32 rfl ?_
  refine P_iconst (v := 0) d_Reader_read_33 (by decide) ?_
  refine P_putG (i := 12) d_Reader_read_34 ok_Reader (by decide) rfl L_Reader_63 s4 (fun _ => rfl) (fun _ => rfl) (fun w5 e5 s5 n5 z5 => ?_)
  have hI5 : I w5 := hI4.setR hb (show w5 = (_, wu _ 164 (rdI b (nI en) 0 y3 y4 y5 0 y7)) from e5)
  have hF5 : Fr (SR2 b) w w5 := Fr.set hF4 e5 (SR2_t (by omega))
  show PW _ _ _ _ _ _ (37, [(0, .ref 164), (1, .int (nI en)), (2, .ref b)], [], w5)
  refine P_aload_n d_Reader_read_37 rfl ?_
  refine P_iconst (v := (-1)) d_Reader_read_38 (by decide) ?_
  refine P_putG (i := 13) d_Reader_read_39 ok_Reader (by decide) rfl L_Reader_25 s5 (fun _ => rfl) (fun _ => rfl) (fun w6 e6 s6 n6 z6 => ?_)
  have hI6 : I w6 := hI5.setR hb (show w6 = (_, wu _ 164 (rdI b (nI en) 0 y3 y4 y5 0 (-1))) from e6)
  have hF6 : Fr (SR2 b) w w6 := Fr.set hF5 e6 (SR2_t (by omega))
  show PW _ _ _ _ _ _ (42, [(0, .ref 164), (1, .int (nI en)), (2, .ref b)], [], w6)
  refine P_aload_n d_Reader_read_42 rfl ?_
  refine P_callV (M := M_Reader_read) (pc := 43) (as := []) (b := 164) d_Reader_read_43 co_Reader_next ok_Reader s6 L_Reader_66 im_Reader_next se_Reader_next (s_Reader_next hI6 (ta := 0) hb hen (by omega) s6) rfl ⟨by decide, by decide⟩ ⟨by decide, by decide⟩ (by exact le_b rfl) ?_ _ rfl
  rintro _ w7 ⟨rfl, hI7, hG7, ⟨ta7, tk7, tp7, vl7, fa7, fp7, ha7, k7⟩⟩
  have hF7 : Fr (SR2 b) w w7 := Fr.tr hF6 (Fr.r12 hG7)
  show PW _ _ _ _ _ _ (46, [(0, .ref 164), (1, .int (nI en)), (2, .ref b)], [], w7)
  refine P_iconst (v := 1) d_Reader_read_46 (by decide) ?_
  refine P_istore_n d_Reader_read_47 (by decide) rfl ?_
  refine P_iconst (v := 0) d_Reader_read_48 (by decide) ?_
  refine P_istore d_Reader_read_49 (by decide) rfl ?_
  refine PW_ind (σ := Bool × pW) (900) (fun jj ss => I (ss.2) ∧ Fr (SR2 b) w (ss.2) ∧ RS b en ((ss.2).2 164) ∧ PS b jj ((ss.2).2 b)) (fun jj ss => (51, [(0, .ref 164), (1, .int (nI en)), (2, .ref b), (3, .int (bi (ss.1))), (4, .int (nI jj))], [], ss.2)) ?_ ?_ 0 (true, w7) (by omega) ⟨hI7, hF7, ⟨ta7, _, _, _, _, _, by omega, k7⟩, ⟨0, 0, 0, by omega, by omega, by omega, ((hG7.2 _ (SR1_f (by omega))).trans ((w_n e6 _ (by omega)).trans ((w_n e5 _ (by omega)).trans ((w_n e4 _ (by omega)).trans ((w_n e3 _ (by omega)).trans k2)))))⟩⟩
  · rintro ⟨j8_3, uj8⟩ ⟨hIj8, hFj8, ⟨taj8_0, tkj8_0, tpj8_0, vlj8_0, faj8_0, fpj8_0, haj8_0, kj8_0⟩, ⟨qj8_1, mj8_1, pj8_1, hqj8_1, hmj8_1, hpj8_1, kj8_1⟩⟩
    show PW _ _ _ _ _ _ (51, [(0, .ref 164), (1, .int (nI en)), (2, .ref b), (3, .int (bi j8_3)), (4, .int 900)], [], uj8)
    refine P_iload d_Reader_read_51 rfl ?_
    refine P_sipush (v := 900) d_Reader_read_53 (by decide) ?_
    refine P_icmp_ge 147 d_Reader_read_56 (by decide) (fun _ => ?_) (fun h => absurd (by decide) h)
    refine P_iload_n d_Reader_read_147 rfl ?_
    exact P_zret d_Reader_read_148 rfl (nar_bi _) (le_b rfl) (le_b rfl) ⟨⟨_, rfl⟩, hIj8, hFj8⟩
  · rintro j8 ⟨j8_3, uj8⟩ hj8 ⟨hIj8, hFj8, ⟨taj8_0, tkj8_0, tpj8_0, vlj8_0, faj8_0, fpj8_0, haj8_0, kj8_0⟩, ⟨qj8_1, mj8_1, pj8_1, hqj8_1, hmj8_1, hpj8_1, kj8_1⟩⟩ kkj8
    show PW _ _ _ _ _ _ (51, [(0, .ref 164), (1, .int (nI en)), (2, .ref b), (3, .int (bi j8_3)), (4, .int (nI j8))], [], uj8)
    refine P_iload d_Reader_read_51 rfl ?_
    refine P_sipush (v := 900) d_Reader_read_53 (by decide) ?_
    refine P_icmp_ge 147 d_Reader_read_56 (by decide) (fun h => absurd h (nI_geF (a := j8) (b := 900) (by omega) (by omega))) (fun _ => ?_)
    refine P_iload_n d_Reader_read_59 rfl ?_
    refine P_if_eq 147 d_Reader_read_60 (by decide) (fun c9 => ?_) (fun c9 => ?_)
    · refine P_iload_n d_Reader_read_147 rfl ?_
      exact P_zret d_Reader_read_148 rfl (nar_bi _) (le_b rfl) (le_b rfl) ⟨⟨_, rfl⟩, hIj8, hFj8⟩
    · refine P_aload_n d_Reader_read_63 rfl ?_
      refine P_getf (i := 9) d_Reader_read_64 ok_Reader (by decide) L_Reader_69 kj8_0 rfl ?_
      refine P_if_eq 147 d_Reader_read_67 (by decide) (fun c10 => ?_) (fun c10 => ?_)
      · refine P_iload_n d_Reader_read_147 rfl ?_
        exact P_zret d_Reader_read_148 rfl (nar_bi _) (le_b rfl) (le_b rfl) ⟨⟨_, rfl⟩, hIj8, hFj8⟩
      · refine P_aload_n d_Reader_read_70 rfl ?_
        refine P_ldc (v := 349951) d_Reader_read_71 L_Reader_72 ?_
        refine P_callV (M := M_Reader_read) (pc := 73) (as := [.int 349951]) (b := 164) d_Reader_read_73 co_Reader_isWord ok_Reader kj8_0 L_Reader_73 im_Reader_isWord se_Reader_isWord (s_Reader_isWord kj8_0 349951) rfl ⟨by decide, by decide⟩ ⟨by decide, by decide⟩ (by exact le_b rfl) ?_ _ rfl
        rintro _ u ⟨⟨v11, rfl⟩, eu⟩
        subst u
        show PW _ _ _ _ _ _ (76, [(0, .ref 164), (1, .int (nI en)), (2, .ref b), (3, .int (bi j8_3)), (4, .int (nI j8))], [.int (bi v11)], uj8)
        refine P_if_eq 87 d_Reader_read_76 (by decide) (fun c12 => ?_) (fun c12 => ?_)
        · refine P_aload_n d_Reader_read_87 rfl ?_
          refine P_sipush (v := 9520) d_Reader_read_88 (by decide) ?_
          refine P_callV (M := M_Reader_read) (pc := 91) (as := [.int 9520]) (b := 164) d_Reader_read_91 co_Reader_isWord ok_Reader kj8_0 L_Reader_73 im_Reader_isWord se_Reader_isWord (s_Reader_isWord kj8_0 9520) rfl ⟨by decide, by decide⟩ ⟨by decide, by decide⟩ (by exact le_b rfl) ?_ _ rfl
          rintro _ u ⟨⟨v13, rfl⟩, eu⟩
          subst u
          show PW _ _ _ _ _ _ (94, [(0, .ref 164), (1, .int (nI en)), (2, .ref b), (3, .int (bi j8_3)), (4, .int (nI j8))], [.int (bi v13)], uj8)
          refine P_if_eq 105 d_Reader_read_94 (by decide) (fun c14 => ?_) (fun c14 => ?_)
          · refine P_aload_n d_Reader_read_105 rfl ?_
            refine P_ldc (v := 8805260) d_Reader_read_106 L_Reader_84 ?_
            refine P_callV (M := M_Reader_read) (pc := 108) (as := [.int 8805260]) (b := 164) d_Reader_read_108 co_Reader_isWord ok_Reader kj8_0 L_Reader_73 im_Reader_isWord se_Reader_isWord (s_Reader_isWord kj8_0 8805260) rfl ⟨by decide, by decide⟩ ⟨by decide, by decide⟩ (by exact le_b rfl) ?_ _ rfl
            rintro _ u ⟨⟨v15, rfl⟩, eu⟩
            subst u
            show PW _ _ _ _ _ _ (111, [(0, .ref 164), (1, .int (nI en)), (2, .ref b), (3, .int (bi j8_3)), (4, .int (nI j8))], [.int (bi v15)], uj8)
            refine P_if_eq 122 d_Reader_read_111 (by decide) (fun c16 => ?_) (fun c16 => ?_)
            · refine P_aload_n d_Reader_read_122 rfl ?_
              refine P_iconst (v := 1) d_Reader_read_123 (by decide) ?_
              refine P_callV (M := M_Reader_read) (pc := 124) (as := [.int 1]) (b := 164) d_Reader_read_124 co_Reader_refuse ok_Reader kj8_0 L_Reader_88 im_Reader_refuse se_Reader_refuse (s_Reader_refuse hIj8 (ta := taj8_0) hb hen (by omega) kj8_0 1) rfl ⟨by decide, by decide⟩ ⟨by decide, by decide⟩ (by exact le_b rfl) ?_ _ rfl
              rintro _ w17 ⟨⟨v17, rfl⟩, hI17, hG17, ⟨ta17, tk17, tp17, vl17, fa17, fp17, ha17, k17⟩⟩
              have hF17 : Fr (SR2 b) w w17 := Fr.tr hFj8 (Fr.r12 hG17)
              show PW _ _ _ _ _ _ (127, [(0, .ref 164), (1, .int (nI en)), (2, .ref b), (3, .int (bi j8_3)), (4, .int (nI j8))], [.int (bi v17)], w17)
              refine P_istore_n d_Reader_read_127 (by decide) rfl ?_
              refine P_aload_n d_Reader_read_128 rfl ?_
              refine P_getf (i := 6) d_Reader_read_129 ok_Reader (by decide) L_Reader_37 k17 rfl ?_
              refine P_dup d_Reader_read_132 rfl ?_
              refine P_getfN (i := 3) d_Reader_read_133 ok_Plane (by decide) L_Reader_91 ((hG17.2 _ (SR1_f (by omega))).trans kj8_1) rfl ?_
              refine P_iconst (v := 1) d_Reader_read_136 (by decide) ?_
              refine P_iaddN (a := j8) (b := 1) d_Reader_read_137 ?_
              show PW _ _ _ _ _ _ (138, [(0, .ref 164), (1, .int (nI en)), (2, .ref b), (3, .int (bi v17)), (4, .int (nI j8))], [.int (nI (j8 + 1)), .ref b], w17)
              refine P_putNG (i := 3) d_Reader_read_138 ok_Plane (by decide) rfl L_Reader_91 ((hG17.2 _ (SR1_f (by omega))).trans kj8_1) (fun _ => rfl) (fun _ => rfl) (fun w18 e18 s18 n18 z18 => ?_)
              have hI18 : I w18 := hI17.setP hb (show w18 = (_, wu _ b (plE b (j8 + 1) qj8_1 mj8_1 pj8_1)) from e18) (by omega) (by omega) (by omega) (by omega)
              have hF18 : Fr (SR2 b) w w18 := Fr.set hF17 e18 (SR2_t (by omega))
              show PW _ _ _ _ _ _ (141, [(0, .ref 164), (1, .int (nI en)), (2, .ref b), (3, .int (bi v17)), (4, .int (nI j8))], [], w18)
              refine P_iinc (v := nI (j8 + 1)) d_Reader_read_141 (by decide) rfl (nI_add j8 1) rfl ?_
              refine P_goto 51 d_Reader_read_144 (by decide) ?_
              exact kkj8 (v17, w18) ⟨hI18, hF18, ⟨ta17, _, _, _, _, _, by omega, ((w_n e18 _ (by omega)).trans k17)⟩, ⟨qj8_1, mj8_1, pj8_1, by omega, by omega, by omega, s18⟩⟩
            · refine P_aload_n d_Reader_read_114 rfl ?_
              refine P_callV (M := M_Reader_read) (pc := 115) (as := []) (b := 164) d_Reader_read_115 co_Reader_readPoint ok_Reader kj8_0 L_Reader_85 im_Reader_readPoint se_Reader_readPoint (s_Reader_readPoint hG hIj8 (ta := taj8_0) hb hen (by omega) kj8_0 kj8_1 (by omega) (by omega) (by omega) (by omega)) rfl ⟨by decide, by decide⟩ ⟨by decide, by decide⟩ (by exact le_b rfl) ?_ _ rfl
              rintro _ w19 ⟨⟨v19, rfl⟩, hI19, hG19, ⟨ta19, tk19, tp19, vl19, fa19, fp19, ha19, k19⟩, q19, m19, p19, hq19, hm19, hp19, kb19⟩
              have hF19 : Fr (SR2 b) w w19 := Fr.tr hFj8 hG19
              show PW _ _ _ _ _ _ (118, [(0, .ref 164), (1, .int (nI en)), (2, .ref b), (3, .int (bi j8_3)), (4, .int (nI j8))], [.int (bi v19)], w19)
              refine P_istore_n d_Reader_read_118 (by decide) rfl ?_
              refine P_goto 128 d_Reader_read_119 (by decide) ?_
              refine P_aload_n d_Reader_read_128 rfl ?_
              refine P_getf (i := 6) d_Reader_read_129 ok_Reader (by decide) L_Reader_37 k19 rfl ?_
              refine P_dup d_Reader_read_132 rfl ?_
              refine P_getfN (i := 3) d_Reader_read_133 ok_Plane (by decide) L_Reader_91 kb19 rfl ?_
              refine P_iconst (v := 1) d_Reader_read_136 (by decide) ?_
              refine P_iaddN (a := j8) (b := 1) d_Reader_read_137 ?_
              show PW _ _ _ _ _ _ (138, [(0, .ref 164), (1, .int (nI en)), (2, .ref b), (3, .int (bi v19)), (4, .int (nI j8))], [.int (nI (j8 + 1)), .ref b], w19)
              refine P_putNG (i := 3) d_Reader_read_138 ok_Plane (by decide) rfl L_Reader_91 kb19 (fun _ => rfl) (fun _ => rfl) (fun w20 e20 s20 n20 z20 => ?_)
              have hI20 : I w20 := hI19.setP hb (show w20 = (_, wu _ b (plE b (j8 + 1) q19 m19 p19)) from e20) (by omega) (by omega) (by omega) (by omega)
              have hF20 : Fr (SR2 b) w w20 := Fr.set hF19 e20 (SR2_t (by omega))
              show PW _ _ _ _ _ _ (141, [(0, .ref 164), (1, .int (nI en)), (2, .ref b), (3, .int (bi v19)), (4, .int (nI j8))], [], w20)
              refine P_iinc (v := nI (j8 + 1)) d_Reader_read_141 (by decide) rfl (nI_add j8 1) rfl ?_
              refine P_goto 51 d_Reader_read_144 (by decide) ?_
              exact kkj8 (v19, w20) ⟨hI20, hF20, ⟨ta19, _, _, _, _, _, by omega, ((w_n e20 _ (by omega)).trans k19)⟩, ⟨q19, m19, p19, by omega, by omega, by omega, s20⟩⟩
          · refine P_aload_n d_Reader_read_97 rfl ?_
            refine P_callV (M := M_Reader_read) (pc := 98) (as := []) (b := 164) d_Reader_read_98 co_Reader_readMap ok_Reader kj8_0 L_Reader_81 im_Reader_readMap se_Reader_readMap (s_Reader_readMap hG hIj8 (ta := taj8_0) hb hen (by omega) kj8_0 kj8_1 (by omega) (by omega) (by omega) (by omega)) rfl ⟨by decide, by decide⟩ ⟨by decide, by decide⟩ (by exact le_b rfl) ?_ _ rfl
            rintro _ w21 ⟨⟨v21, rfl⟩, hI21, hG21, ⟨ta21, tk21, tp21, vl21, fa21, fp21, ha21, k21⟩, q21, m21, p21, hq21, hm21, hp21, kb21⟩
            have hF21 : Fr (SR2 b) w w21 := Fr.tr hFj8 hG21
            show PW _ _ _ _ _ _ (101, [(0, .ref 164), (1, .int (nI en)), (2, .ref b), (3, .int (bi j8_3)), (4, .int (nI j8))], [.int (bi v21)], w21)
            refine P_istore_n d_Reader_read_101 (by decide) rfl ?_
            refine P_goto 128 d_Reader_read_102 (by decide) ?_
            refine P_aload_n d_Reader_read_128 rfl ?_
            refine P_getf (i := 6) d_Reader_read_129 ok_Reader (by decide) L_Reader_37 k21 rfl ?_
            refine P_dup d_Reader_read_132 rfl ?_
            refine P_getfN (i := 3) d_Reader_read_133 ok_Plane (by decide) L_Reader_91 kb21 rfl ?_
            refine P_iconst (v := 1) d_Reader_read_136 (by decide) ?_
            refine P_iaddN (a := j8) (b := 1) d_Reader_read_137 ?_
            show PW _ _ _ _ _ _ (138, [(0, .ref 164), (1, .int (nI en)), (2, .ref b), (3, .int (bi v21)), (4, .int (nI j8))], [.int (nI (j8 + 1)), .ref b], w21)
            refine P_putNG (i := 3) d_Reader_read_138 ok_Plane (by decide) rfl L_Reader_91 kb21 (fun _ => rfl) (fun _ => rfl) (fun w22 e22 s22 n22 z22 => ?_)
            have hI22 : I w22 := hI21.setP hb (show w22 = (_, wu _ b (plE b (j8 + 1) q21 m21 p21)) from e22) (by omega) (by omega) (by omega) (by omega)
            have hF22 : Fr (SR2 b) w w22 := Fr.set hF21 e22 (SR2_t (by omega))
            show PW _ _ _ _ _ _ (141, [(0, .ref 164), (1, .int (nI en)), (2, .ref b), (3, .int (bi v21)), (4, .int (nI j8))], [], w22)
            refine P_iinc (v := nI (j8 + 1)) d_Reader_read_141 (by decide) rfl (nI_add j8 1) rfl ?_
            refine P_goto 51 d_Reader_read_144 (by decide) ?_
            exact kkj8 (v21, w22) ⟨hI22, hF22, ⟨ta21, _, _, _, _, _, by omega, ((w_n e22 _ (by omega)).trans k21)⟩, ⟨q21, m21, p21, by omega, by omega, by omega, s22⟩⟩
        · refine P_aload_n d_Reader_read_79 rfl ?_
          refine P_callV (M := M_Reader_read) (pc := 80) (as := []) (b := 164) d_Reader_read_80 co_Reader_readQuad ok_Reader kj8_0 L_Reader_77 im_Reader_readQuad se_Reader_readQuad (s_Reader_readQuad hG hIj8 (ta := taj8_0) hb hen (by omega) kj8_0 kj8_1 (by omega) (by omega) (by omega) (by omega)) rfl ⟨by decide, by decide⟩ ⟨by decide, by decide⟩ (by exact le_b rfl) ?_ _ rfl
          rintro _ w23 ⟨⟨v23, rfl⟩, hI23, hG23, ⟨ta23, tk23, tp23, vl23, fa23, fp23, ha23, k23⟩, q23, m23, p23, hq23, hm23, hp23, kb23⟩
          have hF23 : Fr (SR2 b) w w23 := Fr.tr hFj8 hG23
          show PW _ _ _ _ _ _ (83, [(0, .ref 164), (1, .int (nI en)), (2, .ref b), (3, .int (bi j8_3)), (4, .int (nI j8))], [.int (bi v23)], w23)
          refine P_istore_n d_Reader_read_83 (by decide) rfl ?_
          refine P_goto 128 d_Reader_read_84 (by decide) ?_
          refine P_aload_n d_Reader_read_128 rfl ?_
          refine P_getf (i := 6) d_Reader_read_129 ok_Reader (by decide) L_Reader_37 k23 rfl ?_
          refine P_dup d_Reader_read_132 rfl ?_
          refine P_getfN (i := 3) d_Reader_read_133 ok_Plane (by decide) L_Reader_91 kb23 rfl ?_
          refine P_iconst (v := 1) d_Reader_read_136 (by decide) ?_
          refine P_iaddN (a := j8) (b := 1) d_Reader_read_137 ?_
          show PW _ _ _ _ _ _ (138, [(0, .ref 164), (1, .int (nI en)), (2, .ref b), (3, .int (bi v23)), (4, .int (nI j8))], [.int (nI (j8 + 1)), .ref b], w23)
          refine P_putNG (i := 3) d_Reader_read_138 ok_Plane (by decide) rfl L_Reader_91 kb23 (fun _ => rfl) (fun _ => rfl) (fun w24 e24 s24 n24 z24 => ?_)
          have hI24 : I w24 := hI23.setP hb (show w24 = (_, wu _ b (plE b (j8 + 1) q23 m23 p23)) from e24) (by omega) (by omega) (by omega) (by omega)
          have hF24 : Fr (SR2 b) w w24 := Fr.set hF23 e24 (SR2_t (by omega))
          show PW _ _ _ _ _ _ (141, [(0, .ref 164), (1, .int (nI en)), (2, .ref b), (3, .int (bi v23)), (4, .int (nI j8))], [], w24)
          refine P_iinc (v := nI (j8 + 1)) d_Reader_read_141 (by decide) rfl (nI_add j8 1) rfl ?_
          refine P_goto 51 d_Reader_read_144 (by decide) ?_
          exact kkj8 (v23, w24) ⟨hI24, hF24, ⟨ta23, _, _, _, _, _, by omega, ((w_n e24 _ (by omega)).trans k23)⟩, ⟨q23, m23, p23, by omega, by omega, by omega, s24⟩⟩
theorem s_CM_text {G : pG} {w : pW} (hG : GO G) (hI : I w) (hJ : J w) {tl : Nat} (et : w.2 153 = tpE tl) (htl : tl ≤ 900) (a : Int32) : PM G M_CM_text 7 0 0 [.ref 0, .int a] w (fun r w' => (∃ v, r = some (.int v)) ∧ I w' ∧ Fr SX w w' ∧ J w' ∧ w'.2 153 = tpE (txL a tl)) := by
  refine PM_of pn_CM_text (le_b rfl) ?_
  show PW _ _ _ _ _ _ (0, [(0, .ref 0), (1, .int a)], [], w)
  obtain ⟨b, hb, e0⟩ := hI.cmN
  obtain ⟨hb1, hb2⟩ := pl_rng hb
  obtain ⟨lc, qc, mc, pc, eb, hlc, hqc, hmc, hpc⟩ := hI.pl hb
  obtain ⟨el, ct, he, hc, ep⟩ := hI.past
  obtain ⟨fd, ed⟩ := hI.ints (r := 170) (by decide) kc_170
  have hj := hJ b lc qc mc pc el ct fd e0 eb hpc ep he hc ed
  refine P_iload_n d_CM_text_0 rfl ?_
  refine P_if_lt 15 d_CM_text_1 (by decide) (fun c1 => ?_) (fun c1 => ?_)
  · refine P_bipush (v := (-2)) d_CM_text_15 (by decide) ?_
    exact P_iret d_CM_text_17 rfl (le_b rfl) (le_b rfl) ⟨⟨_, rfl⟩, hI, Fr.rf, J.mk (b := b) e0 eb (by omega) ep (by omega) (by omega) ed hj, by rw [txL_n c1]; exact et⟩
  · refine P_iload_n d_CM_text_4 rfl ?_
    refine P_aload_n d_CM_text_5 rfl ?_
    refine P_getf (i := 2) d_CM_text_6 ok_CM (by decide) L_CM_24 e0 rfl ?_
    refine P_getfN (i := 1) d_CM_text_9 ok_Tape (by decide) L_CM_107 et rfl ?_
    refine P_icmp_le 18 d_CM_text_12 (by decide) (fun c2 => ?_) (fun c2 => ?_)
    · obtain ⟨aN, haN, rfl⟩ := nI_of_le (n := tl) c1 c2 (nI_toInt (by omega))
      refine P_aload_n d_CM_text_18 rfl ?_
      refine P_getf (i := 3) d_CM_text_19 ok_CM (by decide) L_CM_40 e0 rfl ?_
      refine P_iload_n d_CM_text_22 rfl ?_
      refine P_aload_n d_CM_text_23 rfl ?_
      refine P_getf (i := 1) d_CM_text_24 ok_CM (by decide) L_CM_18 e0 rfl ?_
      obtain ⟨rb, y1, y2, y3, y4, y5, y6, y7, hrb, erd⟩ := hI.rdr
      refine P_callV (M := M_CM_text) (pc := 27) (as := [.int (nI aN), .ref (78 - b)]) (b := 164) d_CM_text_27 co_Reader_read ok_Reader erd L_CM_111 im_Reader_read se_Reader_read (s_Reader_read hG hI (b := 78 - b) (by omega) et htl aN (by omega)) rfl ⟨by decide, by decide⟩ ⟨by decide, by decide⟩ (by exact le_b rfl) ?_ _ rfl
      rintro _ w3 ⟨⟨v3, rfl⟩, hI3, hG3⟩
      have hF3 : Fr SX w w3 := Fr.tr Fr.rf (Fr.x2 hb hG3)
      show PW _ _ _ _ _ _ (30, [(0, .ref 0), (1, .int (nI aN))], [.int (bi v3)], w3)
      refine P_istore_n d_CM_text_30 (by decide) rfl ?_
      refine P_aload_n d_CM_text_31 rfl ?_
      refine P_getf (i := 2) d_CM_text_32 ok_CM (by decide) L_CM_24 ((hG3.2 _ (SR2_f (by omega))).trans e0) rfl ?_
      refine P_iconst (v := 0) d_CM_text_35 (by decide) ?_
      refine P_putNG (i := 1) d_CM_text_36 ok_Tape (by decide) rfl L_CM_107 ((hG3.2 _ (SR2_f (by omega))).trans et) (fun _ => rfl) (fun _ => rfl) (fun w4 e4 s4 n4 z4 => ?_)
      have hI4 : I w4 := hI3.setT  (show w4 = (_, wu _ 153 (tpE 0)) from e4) (by omega)
      have hF4 : Fr SX w w4 := Fr.set hF3 e4 (SX_t (by omega))
      show PW _ _ _ _ _ _ (39, [(0, .ref 0), (1, .int (nI aN)), (2, .int (bi v3))], [], w4)
      refine P_iload_n d_CM_text_39 rfl ?_
      refine P_if_ne 45 d_CM_text_40 (by decide) (fun c5 => ?_) (fun c5 => ?_)
      · refine P_aload_n d_CM_text_45 rfl ?_
        refine P_getf (i := 0) d_CM_text_46 ok_CM (by decide) L_CM_12 ((w_n e4 _ (by decide)).trans ((hG3.2 _ (SR2_f (by omega))).trans e0)) rfl ?_
        refine P_astore_n d_CM_text_49 (by decide) rfl ?_
        refine P_aload_n d_CM_text_50 rfl ?_
        refine P_aload_n d_CM_text_51 rfl ?_
        refine P_getf (i := 1) d_CM_text_52 ok_CM (by decide) L_CM_18 ((w_n e4 _ (by decide)).trans ((hG3.2 _ (SR2_f (by omega))).trans e0)) rfl ?_
        refine P_putG (i := 0) d_CM_text_55 ok_CM (by decide) rfl L_CM_12 ((w_n e4 _ (by decide)).trans ((hG3.2 _ (SR2_f (by omega))).trans e0)) (fun _ => rfl) (fun _ => rfl) (fun w6 e6 s6 n6 z6 => ?_)
        show PW _ _ _ _ _ _ (58, [(0, .ref 0), (1, .int (nI aN)), (2, .int (bi v3)), (3, .ref b)], [], w6)
        refine P_aload_n d_CM_text_58 rfl ?_
        refine P_aload_n d_CM_text_59 rfl ?_
        refine P_putG (i := 1) d_CM_text_60 ok_CM (by decide) rfl L_CM_18 s6 (fun _ => rfl) (fun _ => rfl) (fun w7 e7 s7 n7 z7 => ?_)
        have ec7 : (.inr (8, [.ref (78 - b), .ref b, .ref 153, .ref 164, .ref 169, .ref 155, .ref 189, .ref 447, .ref 449, .ref 450, .ref 451, .ref 452, .ref 453, .ref 454, .ref 455, .ref 456, .ref 457, .ref 466]) : pE) = cmE (78 - b) := congrArg (fun c => (.inr (8, [.ref (78 - b), .ref c, .ref 153, .ref 164, .ref 169, .ref 155, .ref 189, .ref 447, .ref 449, .ref 450, .ref 451, .ref 452, .ref 453, .ref 454, .ref 455, .ref 456, .ref 457, .ref 466]) : pE)) (show b = 78 - (78 - b) by omega)
        have ee7 : w7 = (w4.1, wu w4.2 0 (cmE (78 - b))) := by
          rw [← ec7, e7, e6]
          exact congrArg (fun f => (w4.1, f)) (wu_wu _ 0 _ _)
        have hI7 : I w7 := hI4.set ee7 (fun _ => by rw [show Kc 0 = (7, 0, 0) by decide +kernel]; exact ⟨78 - b, (show 78 - b = 1 ∨ 78 - b = 77 by omega), rfl⟩)
        have hF7 : Fr SX w w7 := Fr.set hF4 ee7 (SX_t (by omega))
        have k7 := w_s ee7
        show PW _ _ _ _ _ _ (63, [(0, .ref 0), (1, .int (nI aN)), (2, .int (bi v3)), (3, .ref b)], [], w7)
        refine P_aload_n d_CM_text_63 rfl ?_
        refine P_getf (i := 4) d_CM_text_64 ok_CM (by decide) L_CM_47 k7 rfl ?_
        refine P_callV (M := M_CM_text) (pc := 67) (as := []) (b := 169) d_CM_text_67 co_Past_forget ok_Past ((w_n ee7 _ (by decide)).trans ((w_n e4 _ (by decide)).trans ((hG3.2 _ (SR2_f (by omega))).trans ep))) L_CM_115 im_Past_forget se_Past_forget (s_Past_forget hI7 ((w_n ee7 _ (by decide)).trans ((w_n e4 _ (by decide)).trans ((hG3.2 _ (SR2_f (by omega))).trans ep))) (by omega) (by omega) ((w_n ee7 _ (by decide)).trans ((w_n e4 _ (by decide)).trans ((hG3.2 _ (SR2_f (by omega))).trans ed)))) rfl ⟨by decide, by decide⟩ ⟨by decide, by decide⟩ (by exact le_b rfl) ?_ _ rfl
        rintro _ w8 ⟨rfl, hI8, hG8, ka8, kb8⟩
        have hF8 : Fr SX w w8 := Fr.tr hF7 (Fr.xp hG8)
        show PW _ _ _ _ _ _ (70, [(0, .ref 0), (1, .int (nI aN)), (2, .int (bi v3)), (3, .ref b)], [], w8)
        obtain ⟨l9, q9, m9, p9, kp9, hl9, hq9, hm9, hp9⟩ := hI8.pl (b := 78 - b) (by omega)
        refine P_aload_n d_CM_text_70 rfl ?_
        refine P_getf (i := 0) d_CM_text_71 ok_CM (by decide) L_CM_12 ((hG8.2 _ (SP_f (by omega))).trans k7) rfl ?_
        refine P_getfN (i := 3) d_CM_text_74 ok_Plane (by decide) L_CM_118 kp9 rfl ?_
        exact P_iret d_CM_text_77 rfl (le_b rfl) (le_b rfl) ⟨⟨_, rfl⟩, hI8, hF8, J.mk (b := 78 - b) ((hG8.2 _ (SP_f (by omega))).trans k7) kp9 (by omega) ka8 (by omega) (by omega) kb8 (Nat.zero_le _), by rw [txL_o (by omega) htl]; exact ((hG8.2 _ (SP_f (by omega))).trans ((w_n ee7 _ (by decide)).trans s4))⟩
      · refine P_iconst (v := (-1)) d_CM_text_43 (by decide) ?_
        exact P_iret d_CM_text_44 rfl (le_b rfl) (le_b rfl) ⟨⟨_, rfl⟩, hI4, hF4, J.mk (b := b) ((w_n e4 _ (by decide)).trans ((hG3.2 _ (SR2_f (by omega))).trans e0)) ((w_n e4 _ (by omega)).trans ((hG3.2 _ (SR2_f (by omega))).trans eb)) (by omega) ((w_n e4 _ (by decide)).trans ((hG3.2 _ (SR2_f (by omega))).trans ep)) (by omega) (by omega) ((w_n e4 _ (by decide)).trans ((hG3.2 _ (SR2_f (by omega))).trans ed)) hj, by rw [txL_o (by omega) htl]; exact s4⟩
    · refine P_bipush (v := (-2)) d_CM_text_15 (by decide) ?_
      exact P_iret d_CM_text_17 rfl (le_b rfl) (le_b rfl) ⟨⟨_, rfl⟩, hI, Fr.rf, J.mk (b := b) e0 eb (by omega) ep (by omega) (by omega) ed hj, by rw [txL_g c1 c2]; exact et⟩
