/-! the class: feed (by program) -/
theorem s_Tape_hasRoomFor {G : pG} {w : pW} {tl : Nat} (et : w.2 153 = tpE tl) (htl : tl ≤ 900) (a : Nat) (ha : a < 1000) : PM G M_Tape_hasRoomFor 0 0 0 [.ref 153, .int (nI a)] w (fun r w' => r = some (.int (bi (decide (tl + a ≤ 900)))) ∧ w' = w) := by
  refine PM_of pn_Tape_hasRoomFor (le_b rfl) ?_
  show PW _ _ _ _ _ _ (0, [(0, .ref 153), (1, .int (nI a))], [], w)
  refine P_aload_n d_Tape_hasRoomFor_0 rfl ?_
  refine P_getf (i := 1) d_Tape_hasRoomFor_1 ok_Tape (by decide) L_Tape_15 et rfl ?_
  refine P_iload_n d_Tape_hasRoomFor_4 rfl ?_
  refine P_iaddN (a := tl) (b := a) d_Tape_hasRoomFor_5 ?_
  show PW _ _ _ _ _ _ (6, [(0, .ref 153), (1, .int (nI a))], [.int (nI (tl + a))], w)
  refine P_sipush (v := 900) d_Tape_hasRoomFor_6 (by decide) ?_
  refine P_icmp_gt 16 d_Tape_hasRoomFor_9 (by decide) (fun c1 => ?_) (fun c1 => ?_)
  · have ic1 : (tl + a) > 900 := nI_gtt (by omega) (by omega) c1
    refine P_iconst (v := 0) d_Tape_hasRoomFor_16 (by decide) ?_
    exact P_zret d_Tape_hasRoomFor_17 rfl rfl (le_b rfl) (le_b rfl) ⟨by rw [decide_eq_false (by omega)]; rfl, rfl⟩
  · have ic1 : (tl + a) ≤ 900 := nI_gtf (by omega) (by omega) c1
    refine P_iconst (v := 1) d_Tape_hasRoomFor_12 (by decide) ?_
    refine P_goto 17 d_Tape_hasRoomFor_13 (by decide) ?_
    exact P_zret d_Tape_hasRoomFor_17 rfl rfl (le_b rfl) (le_b rfl) ⟨by rw [decide_eq_true (by omega)]; rfl, rfl⟩
theorem s_Tape_put {G : pG} {w : pW} (hI : I w) {tl : Nat} (et : w.2 153 = tpE tl) (a : Int32) (h4 : tl + 4 ≤ 900) : PM G M_Tape_put 0 0 0 [.ref 153, .int a] w (fun r w' => r = none ∧ I w' ∧ Fr ST w w' ∧ w'.2 153 = tpE (tl + 4)) := by
  refine PM_of pn_Tape_put (le_b rfl) ?_
  show PW _ _ _ _ _ _ (0, [(0, .ref 153), (1, .int a)], [], w)
  refine P_bipush (v := 24) d_Tape_put_0 (by decide) ?_
  refine P_istore_n d_Tape_put_2 (by decide) rfl ?_
  refine P_iload_n d_Tape_put_3 rfl ?_
  refine P_if_lt 49 d_Tape_put_4 (by decide) (fun h => absurd h (by decide)) (fun _ => ?_)
  refine P_aload_n d_Tape_put_7 rfl ?_
  refine P_getf (i := 1) d_Tape_put_8 ok_Tape (by decide) L_Tape_15 et rfl ?_
  refine P_sipush (v := 900) d_Tape_put_11 (by decide) ?_
  refine P_icmp_ge 49 d_Tape_put_14 (by decide) (fun c1 => ?_) (fun c1 => ?_)
  · have ic1 : tl ≥ 900 := nI_get (by omega) (by omega) c1
    exact P_vret d_Tape_put_49 rfl (le_b rfl) (le_b rfl) (by exfalso; omega)
  · have ic1 : tl < 900 := nI_gef (by omega) (by omega) c1
    refine P_aload_n d_Tape_put_17 rfl ?_
    refine P_getf (i := 0) d_Tape_put_18 ok_Tape (by decide) L_Tape_9 et rfl ?_
    refine P_aload_n d_Tape_put_21 rfl ?_
    refine P_getf (i := 1) d_Tape_put_22 ok_Tape (by decide) L_Tape_15 et rfl ?_
    refine P_iload_n d_Tape_put_25 rfl ?_
    refine P_iload_n d_Tape_put_26 rfl ?_
    refine P_iushr d_Tape_put_27 ?_
    generalize (a.toUInt32 >>> ((24 : Int32).toUInt32 &&& Int32.toUInt32 31)).toInt32 = zz2
    show PW _ _ _ _ _ _ (28, [(0, .ref 153), (1, .int a), (2, .int 24)], [.int zz2, .int (nI tl), .ref 154], w)
    refine P_sipush (v := 255) d_Tape_put_28 (by decide) ?_
    refine P_iand d_Tape_put_31 ?_
    obtain ⟨k3, k3l, k3e⟩ := pk_andE zz2 (m := 255) 8 (by decide)
    rw [k3e]
    have k3l : k3 < 256 := k3l
    show PW _ _ _ _ _ _ (32, [(0, .ref 153), (1, .int a), (2, .int 24)], [.int (nI k3), .int (nI tl), .ref 154], w)
    obtain ⟨f4, f4e⟩ := hI.ints (r := 154) (by decide) kc_154
    refine P_iastG (j := tl) d_Tape_put_32 f4e (by decide) (ix_nI (by omega)) (by omega) (fun w5 e5 s5 n5 z5 => ?_)
    generalize upd _ _ _ = g6 at e5 s5
    have hI5 : I w5 := hI.setI e5 kc_154
    have hF5 : Fr ST w w5 := Fr.set Fr.rf e5 (ST_t (by omega))
    show PW _ _ _ _ _ _ (33, [(0, .ref 153), (1, .int a), (2, .int 24)], [], w5)
    refine P_aload_n d_Tape_put_33 rfl ?_
    refine P_dup d_Tape_put_34 rfl ?_
    refine P_getf (i := 1) d_Tape_put_35 ok_Tape (by decide) L_Tape_15 ((w_n e5 _ (by decide)).trans et) rfl ?_
    refine P_iconst (v := 1) d_Tape_put_38 (by decide) ?_
    refine P_iaddN (a := tl) (b := 1) d_Tape_put_39 ?_
    show PW _ _ _ _ _ _ (40, [(0, .ref 153), (1, .int a), (2, .int 24)], [.int (nI (tl + 1)), .ref 153], w5)
    refine P_putG (i := 1) d_Tape_put_40 ok_Tape (by decide) rfl L_Tape_15 ((w_n e5 _ (by decide)).trans et) (fun _ => rfl) (fun _ => rfl) (fun w7 e7 s7 n7 z7 => ?_)
    have hI7 : I w7 := hI5.setT  (show w7 = (_, wu _ 153 (tpE (tl + 1))) from e7) (by omega)
    have hF7 : Fr ST w w7 := Fr.set hF5 e7 (ST_t (by omega))
    show PW _ _ _ _ _ _ (43, [(0, .ref 153), (1, .int a), (2, .int 24)], [], w7)
    refine P_iinc (v := 16) d_Tape_put_43 (by decide) rfl (by decide) rfl ?_
    refine P_goto 3 d_Tape_put_46 (by decide) ?_
    refine P_iload_n d_Tape_put_3 rfl ?_
    refine P_if_lt 49 d_Tape_put_4 (by decide) (fun h => absurd h (by decide)) (fun _ => ?_)
    refine P_aload_n d_Tape_put_7 rfl ?_
    refine P_getf (i := 1) d_Tape_put_8 ok_Tape (by decide) L_Tape_15 s7 rfl ?_
    refine P_sipush (v := 900) d_Tape_put_11 (by decide) ?_
    refine P_icmp_ge 49 d_Tape_put_14 (by decide) (fun c8 => ?_) (fun c8 => ?_)
    · have ic8 : (tl + 1) ≥ 900 := nI_get (by omega) (by omega) c8
      exact P_vret d_Tape_put_49 rfl (le_b rfl) (le_b rfl) (by exfalso; omega)
    · have ic8 : (tl + 1) < 900 := nI_gef (by omega) (by omega) c8
      refine P_aload_n d_Tape_put_17 rfl ?_
      refine P_getf (i := 0) d_Tape_put_18 ok_Tape (by decide) L_Tape_9 s7 rfl ?_
      refine P_aload_n d_Tape_put_21 rfl ?_
      refine P_getf (i := 1) d_Tape_put_22 ok_Tape (by decide) L_Tape_15 s7 rfl ?_
      refine P_iload_n d_Tape_put_25 rfl ?_
      refine P_iload_n d_Tape_put_26 rfl ?_
      refine P_iushr d_Tape_put_27 ?_
      generalize (a.toUInt32 >>> ((16 : Int32).toUInt32 &&& Int32.toUInt32 31)).toInt32 = zz9
      show PW _ _ _ _ _ _ (28, [(0, .ref 153), (1, .int a), (2, .int 16)], [.int zz9, .int (nI (tl + 1)), .ref 154], w7)
      refine P_sipush (v := 255) d_Tape_put_28 (by decide) ?_
      refine P_iand d_Tape_put_31 ?_
      obtain ⟨k10, k10l, k10e⟩ := pk_andE zz9 (m := 255) 8 (by decide)
      rw [k10e]
      have k10l : k10 < 256 := k10l
      show PW _ _ _ _ _ _ (32, [(0, .ref 153), (1, .int a), (2, .int 16)], [.int (nI k10), .int (nI (tl + 1)), .ref 154], w7)
      obtain ⟨f11, f11e⟩ := hI7.ints (r := 154) (by decide) kc_154
      refine P_iastG (j := tl + 1) d_Tape_put_32 f11e (by decide) (ix_nI (by omega)) (by omega) (fun w12 e12 s12 n12 z12 => ?_)
      generalize upd _ _ _ = g13 at e12 s12
      have hI12 : I w12 := hI7.setI e12 kc_154
      have hF12 : Fr ST w w12 := Fr.set hF7 e12 (ST_t (by omega))
      show PW _ _ _ _ _ _ (33, [(0, .ref 153), (1, .int a), (2, .int 16)], [], w12)
      refine P_aload_n d_Tape_put_33 rfl ?_
      refine P_dup d_Tape_put_34 rfl ?_
      refine P_getf (i := 1) d_Tape_put_35 ok_Tape (by decide) L_Tape_15 ((w_n e12 _ (by decide)).trans s7) rfl ?_
      refine P_iconst (v := 1) d_Tape_put_38 (by decide) ?_
      refine P_iaddN (a := (tl + 1)) (b := 1) d_Tape_put_39 ?_
      show PW _ _ _ _ _ _ (40, [(0, .ref 153), (1, .int a), (2, .int 16)], [.int (nI ((tl + 1) + 1)), .ref 153], w12)
      refine P_putG (i := 1) d_Tape_put_40 ok_Tape (by decide) rfl L_Tape_15 ((w_n e12 _ (by decide)).trans s7) (fun _ => rfl) (fun _ => rfl) (fun w14 e14 s14 n14 z14 => ?_)
      have hI14 : I w14 := hI12.setT  (show w14 = (_, wu _ 153 (tpE ((tl + 1) + 1))) from e14) (by omega)
      have hF14 : Fr ST w w14 := Fr.set hF12 e14 (ST_t (by omega))
      show PW _ _ _ _ _ _ (43, [(0, .ref 153), (1, .int a), (2, .int 16)], [], w14)
      refine P_iinc (v := 8) d_Tape_put_43 (by decide) rfl (by decide) rfl ?_
      refine P_goto 3 d_Tape_put_46 (by decide) ?_
      refine P_iload_n d_Tape_put_3 rfl ?_
      refine P_if_lt 49 d_Tape_put_4 (by decide) (fun h => absurd h (by decide)) (fun _ => ?_)
      refine P_aload_n d_Tape_put_7 rfl ?_
      refine P_getf (i := 1) d_Tape_put_8 ok_Tape (by decide) L_Tape_15 s14 rfl ?_
      refine P_sipush (v := 900) d_Tape_put_11 (by decide) ?_
      refine P_icmp_ge 49 d_Tape_put_14 (by decide) (fun c15 => ?_) (fun c15 => ?_)
      · have ic15 : ((tl + 1) + 1) ≥ 900 := nI_get (by omega) (by omega) c15
        exact P_vret d_Tape_put_49 rfl (le_b rfl) (le_b rfl) (by exfalso; omega)
      · have ic15 : ((tl + 1) + 1) < 900 := nI_gef (by omega) (by omega) c15
        refine P_aload_n d_Tape_put_17 rfl ?_
        refine P_getf (i := 0) d_Tape_put_18 ok_Tape (by decide) L_Tape_9 s14 rfl ?_
        refine P_aload_n d_Tape_put_21 rfl ?_
        refine P_getf (i := 1) d_Tape_put_22 ok_Tape (by decide) L_Tape_15 s14 rfl ?_
        refine P_iload_n d_Tape_put_25 rfl ?_
        refine P_iload_n d_Tape_put_26 rfl ?_
        refine P_iushr d_Tape_put_27 ?_
        generalize (a.toUInt32 >>> ((8 : Int32).toUInt32 &&& Int32.toUInt32 31)).toInt32 = zz16
        show PW _ _ _ _ _ _ (28, [(0, .ref 153), (1, .int a), (2, .int 8)], [.int zz16, .int (nI ((tl + 1) + 1)), .ref 154], w14)
        refine P_sipush (v := 255) d_Tape_put_28 (by decide) ?_
        refine P_iand d_Tape_put_31 ?_
        obtain ⟨k17, k17l, k17e⟩ := pk_andE zz16 (m := 255) 8 (by decide)
        rw [k17e]
        have k17l : k17 < 256 := k17l
        show PW _ _ _ _ _ _ (32, [(0, .ref 153), (1, .int a), (2, .int 8)], [.int (nI k17), .int (nI ((tl + 1) + 1)), .ref 154], w14)
        obtain ⟨f18, f18e⟩ := hI14.ints (r := 154) (by decide) kc_154
        refine P_iastG (j := (tl + 1) + 1) d_Tape_put_32 f18e (by decide) (ix_nI (by omega)) (by omega) (fun w19 e19 s19 n19 z19 => ?_)
        generalize upd _ _ _ = g20 at e19 s19
        have hI19 : I w19 := hI14.setI e19 kc_154
        have hF19 : Fr ST w w19 := Fr.set hF14 e19 (ST_t (by omega))
        show PW _ _ _ _ _ _ (33, [(0, .ref 153), (1, .int a), (2, .int 8)], [], w19)
        refine P_aload_n d_Tape_put_33 rfl ?_
        refine P_dup d_Tape_put_34 rfl ?_
        refine P_getf (i := 1) d_Tape_put_35 ok_Tape (by decide) L_Tape_15 ((w_n e19 _ (by decide)).trans s14) rfl ?_
        refine P_iconst (v := 1) d_Tape_put_38 (by decide) ?_
        refine P_iaddN (a := ((tl + 1) + 1)) (b := 1) d_Tape_put_39 ?_
        show PW _ _ _ _ _ _ (40, [(0, .ref 153), (1, .int a), (2, .int 8)], [.int (nI (((tl + 1) + 1) + 1)), .ref 153], w19)
        refine P_putG (i := 1) d_Tape_put_40 ok_Tape (by decide) rfl L_Tape_15 ((w_n e19 _ (by decide)).trans s14) (fun _ => rfl) (fun _ => rfl) (fun w21 e21 s21 n21 z21 => ?_)
        have hI21 : I w21 := hI19.setT  (show w21 = (_, wu _ 153 (tpE (((tl + 1) + 1) + 1))) from e21) (by omega)
        have hF21 : Fr ST w w21 := Fr.set hF19 e21 (ST_t (by omega))
        show PW _ _ _ _ _ _ (43, [(0, .ref 153), (1, .int a), (2, .int 8)], [], w21)
        refine P_iinc (v := 0) d_Tape_put_43 (by decide) rfl (by decide) rfl ?_
        refine P_goto 3 d_Tape_put_46 (by decide) ?_
        refine P_iload_n d_Tape_put_3 rfl ?_
        refine P_if_lt 49 d_Tape_put_4 (by decide) (fun h => absurd h (by decide)) (fun _ => ?_)
        refine P_aload_n d_Tape_put_7 rfl ?_
        refine P_getf (i := 1) d_Tape_put_8 ok_Tape (by decide) L_Tape_15 s21 rfl ?_
        refine P_sipush (v := 900) d_Tape_put_11 (by decide) ?_
        refine P_icmp_ge 49 d_Tape_put_14 (by decide) (fun c22 => ?_) (fun c22 => ?_)
        · have ic22 : (((tl + 1) + 1) + 1) ≥ 900 := nI_get (by omega) (by omega) c22
          exact P_vret d_Tape_put_49 rfl (le_b rfl) (le_b rfl) (by exfalso; omega)
        · have ic22 : (((tl + 1) + 1) + 1) < 900 := nI_gef (by omega) (by omega) c22
          refine P_aload_n d_Tape_put_17 rfl ?_
          refine P_getf (i := 0) d_Tape_put_18 ok_Tape (by decide) L_Tape_9 s21 rfl ?_
          refine P_aload_n d_Tape_put_21 rfl ?_
          refine P_getf (i := 1) d_Tape_put_22 ok_Tape (by decide) L_Tape_15 s21 rfl ?_
          refine P_iload_n d_Tape_put_25 rfl ?_
          refine P_iload_n d_Tape_put_26 rfl ?_
          refine P_iushr d_Tape_put_27 ?_
          generalize (a.toUInt32 >>> ((0 : Int32).toUInt32 &&& Int32.toUInt32 31)).toInt32 = zz23
          show PW _ _ _ _ _ _ (28, [(0, .ref 153), (1, .int a), (2, .int 0)], [.int zz23, .int (nI (((tl + 1) + 1) + 1)), .ref 154], w21)
          refine P_sipush (v := 255) d_Tape_put_28 (by decide) ?_
          refine P_iand d_Tape_put_31 ?_
          obtain ⟨k24, k24l, k24e⟩ := pk_andE zz23 (m := 255) 8 (by decide)
          rw [k24e]
          have k24l : k24 < 256 := k24l
          show PW _ _ _ _ _ _ (32, [(0, .ref 153), (1, .int a), (2, .int 0)], [.int (nI k24), .int (nI (((tl + 1) + 1) + 1)), .ref 154], w21)
          obtain ⟨f25, f25e⟩ := hI21.ints (r := 154) (by decide) kc_154
          refine P_iastG (j := ((tl + 1) + 1) + 1) d_Tape_put_32 f25e (by decide) (ix_nI (by omega)) (by omega) (fun w26 e26 s26 n26 z26 => ?_)
          generalize upd _ _ _ = g27 at e26 s26
          have hI26 : I w26 := hI21.setI e26 kc_154
          have hF26 : Fr ST w w26 := Fr.set hF21 e26 (ST_t (by omega))
          show PW _ _ _ _ _ _ (33, [(0, .ref 153), (1, .int a), (2, .int 0)], [], w26)
          refine P_aload_n d_Tape_put_33 rfl ?_
          refine P_dup d_Tape_put_34 rfl ?_
          refine P_getf (i := 1) d_Tape_put_35 ok_Tape (by decide) L_Tape_15 ((w_n e26 _ (by decide)).trans s21) rfl ?_
          refine P_iconst (v := 1) d_Tape_put_38 (by decide) ?_
          refine P_iaddN (a := (((tl + 1) + 1) + 1)) (b := 1) d_Tape_put_39 ?_
          show PW _ _ _ _ _ _ (40, [(0, .ref 153), (1, .int a), (2, .int 0)], [.int (nI ((((tl + 1) + 1) + 1) + 1)), .ref 153], w26)
          refine P_putG (i := 1) d_Tape_put_40 ok_Tape (by decide) rfl L_Tape_15 ((w_n e26 _ (by decide)).trans s21) (fun _ => rfl) (fun _ => rfl) (fun w28 e28 s28 n28 z28 => ?_)
          have hI28 : I w28 := hI26.setT  (show w28 = (_, wu _ 153 (tpE ((((tl + 1) + 1) + 1) + 1))) from e28) (by omega)
          have hF28 : Fr ST w w28 := Fr.set hF26 e28 (ST_t (by omega))
          show PW _ _ _ _ _ _ (43, [(0, .ref 153), (1, .int a), (2, .int 0)], [], w28)
          refine P_iinc (v := (-8)) d_Tape_put_43 (by decide) rfl (by decide) rfl ?_
          refine P_goto 3 d_Tape_put_46 (by decide) ?_
          refine P_iload_n d_Tape_put_3 rfl ?_
          refine P_if_lt 49 d_Tape_put_4 (by decide) (fun _ => ?_) (fun h => absurd (by decide) h)
          exact P_vret d_Tape_put_49 rfl (le_b rfl) (le_b rfl) ⟨rfl, hI28, hF28, s28⟩
theorem s_CM_feed {G : pG} {w : pW} (hI : I w) {tl : Nat} (et : w.2 153 = tpE tl) (htl : tl ≤ 900) (a1 : Int32) (a2 : Int32) (a3 : Int32) (a4 : Int32) (a5 : Int32) : PM G M_CM_feed 1 0 0 [.ref 0, .int a1, .int a2, .int a3, .int a4, .int a5] w (fun r w' => r = some (.int (fdR tl)) ∧ I w' ∧ Fr ST w w' ∧ w'.2 153 = tpE (fdL tl)) := by
  refine PM_of pn_CM_feed (le_b rfl) ?_
  show PW _ _ _ _ _ _ (0, [(0, .ref 0), (1, .int a1), (2, .int a2), (3, .int a3), (4, .int a4), (5, .int a5)], [], w)
  obtain ⟨b, hb, e0⟩ := hI.cm
  refine P_aload_n d_CM_feed_0 rfl ?_
  refine P_getf (i := 2) d_CM_feed_1 ok_CM (by decide) L_CM_24 e0 rfl ?_
  refine P_bipush (v := 20) d_CM_feed_4 (by decide) ?_
  refine P_callV (M := M_CM_feed) (pc := 6) (as := [.int 20]) (b := 153) d_CM_feed_6 co_Tape_hasRoomFor ok_Tape et L_CM_99 im_Tape_hasRoomFor se_Tape_hasRoomFor (s_Tape_hasRoomFor et (by omega) 20 (by decide)) rfl ⟨by decide, by decide⟩ ⟨by decide, by decide⟩ (by exact le_b rfl) ?_ _ rfl
  rintro _ u ⟨rfl, eu⟩
  subst u
  show PW _ _ _ _ _ _ (9, [(0, .ref 0), (1, .int a1), (2, .int a2), (3, .int a3), (4, .int a4), (5, .int a5)], [.int (bi (decide (tl + 20 ≤ 900)))], w)
  refine P_if_ne 14 d_CM_feed_9 (by decide) (fun c2 => ?_) (fun c2 => ?_)
  · have ic2 := of_decide_eq_true (bi_1 c2)
    refine P_aload_n d_CM_feed_14 rfl ?_
    refine P_getf (i := 2) d_CM_feed_15 ok_CM (by decide) L_CM_24 e0 rfl ?_
    refine P_iload_n d_CM_feed_18 rfl ?_
    refine P_callV (M := M_CM_feed) (pc := 19) (as := [.int a1]) (b := 153) d_CM_feed_19 co_Tape_put ok_Tape et L_CM_103 im_Tape_put se_Tape_put (s_Tape_put hI et a1 (by omega)) rfl ⟨by decide, by decide⟩ ⟨by decide, by decide⟩ (by exact le_b rfl) ?_ _ rfl
    rintro _ w3 ⟨rfl, hI3, hG3, k3⟩
    have hF3 : Fr ST w w3 := Fr.tr Fr.rf hG3
    show PW _ _ _ _ _ _ (22, [(0, .ref 0), (1, .int a1), (2, .int a2), (3, .int a3), (4, .int a4), (5, .int a5)], [], w3)
    refine P_aload_n d_CM_feed_22 rfl ?_
    refine P_getf (i := 2) d_CM_feed_23 ok_CM (by decide) L_CM_24 ((hG3.2 _ (ST_f (by omega))).trans e0) rfl ?_
    refine P_iload_n d_CM_feed_26 rfl ?_
    refine P_callV (M := M_CM_feed) (pc := 27) (as := [.int a2]) (b := 153) d_CM_feed_27 co_Tape_put ok_Tape k3 L_CM_103 im_Tape_put se_Tape_put (s_Tape_put hI3 k3 a2 (by omega)) rfl ⟨by decide, by decide⟩ ⟨by decide, by decide⟩ (by exact le_b rfl) ?_ _ rfl
    rintro _ w4 ⟨rfl, hI4, hG4, k4⟩
    have hF4 : Fr ST w w4 := Fr.tr hF3 hG4
    show PW _ _ _ _ _ _ (30, [(0, .ref 0), (1, .int a1), (2, .int a2), (3, .int a3), (4, .int a4), (5, .int a5)], [], w4)
    refine P_aload_n d_CM_feed_30 rfl ?_
    refine P_getf (i := 2) d_CM_feed_31 ok_CM (by decide) L_CM_24 ((hG4.2 _ (ST_f (by omega))).trans ((hG3.2 _ (ST_f (by omega))).trans e0)) rfl ?_
    refine P_iload_n d_CM_feed_34 rfl ?_
    refine P_callV (M := M_CM_feed) (pc := 35) (as := [.int a3]) (b := 153) d_CM_feed_35 co_Tape_put ok_Tape k4 L_CM_103 im_Tape_put se_Tape_put (s_Tape_put hI4 k4 a3 (by omega)) rfl ⟨by decide, by decide⟩ ⟨by decide, by decide⟩ (by exact le_b rfl) ?_ _ rfl
    rintro _ w5 ⟨rfl, hI5, hG5, k5⟩
    have hF5 : Fr ST w w5 := Fr.tr hF4 hG5
    show PW _ _ _ _ _ _ (38, [(0, .ref 0), (1, .int a1), (2, .int a2), (3, .int a3), (4, .int a4), (5, .int a5)], [], w5)
    refine P_aload_n d_CM_feed_38 rfl ?_
    refine P_getf (i := 2) d_CM_feed_39 ok_CM (by decide) L_CM_24 ((hG5.2 _ (ST_f (by omega))).trans ((hG4.2 _ (ST_f (by omega))).trans ((hG3.2 _ (ST_f (by omega))).trans e0))) rfl ?_
    refine P_iload d_CM_feed_42 rfl ?_
    refine P_callV (M := M_CM_feed) (pc := 44) (as := [.int a4]) (b := 153) d_CM_feed_44 co_Tape_put ok_Tape k5 L_CM_103 im_Tape_put se_Tape_put (s_Tape_put hI5 k5 a4 (by omega)) rfl ⟨by decide, by decide⟩ ⟨by decide, by decide⟩ (by exact le_b rfl) ?_ _ rfl
    rintro _ w6 ⟨rfl, hI6, hG6, k6⟩
    have hF6 : Fr ST w w6 := Fr.tr hF5 hG6
    show PW _ _ _ _ _ _ (47, [(0, .ref 0), (1, .int a1), (2, .int a2), (3, .int a3), (4, .int a4), (5, .int a5)], [], w6)
    refine P_aload_n d_CM_feed_47 rfl ?_
    refine P_getf (i := 2) d_CM_feed_48 ok_CM (by decide) L_CM_24 ((hG6.2 _ (ST_f (by omega))).trans ((hG5.2 _ (ST_f (by omega))).trans ((hG4.2 _ (ST_f (by omega))).trans ((hG3.2 _ (ST_f (by omega))).trans e0)))) rfl ?_
    refine P_iload d_CM_feed_51 rfl ?_
    refine P_callV (M := M_CM_feed) (pc := 53) (as := [.int a5]) (b := 153) d_CM_feed_53 co_Tape_put ok_Tape k6 L_CM_103 im_Tape_put se_Tape_put (s_Tape_put hI6 k6 a5 (by omega)) rfl ⟨by decide, by decide⟩ ⟨by decide, by decide⟩ (by exact le_b rfl) ?_ _ rfl
    rintro _ w7 ⟨rfl, hI7, hG7, k7⟩
    have hF7 : Fr ST w w7 := Fr.tr hF6 hG7
    show PW _ _ _ _ _ _ (56, [(0, .ref 0), (1, .int a1), (2, .int a2), (3, .int a3), (4, .int a4), (5, .int a5)], [], w7)
    refine P_aload_n d_CM_feed_56 rfl ?_
    refine P_getf (i := 2) d_CM_feed_57 ok_CM (by decide) L_CM_24 ((hG7.2 _ (ST_f (by omega))).trans ((hG6.2 _ (ST_f (by omega))).trans ((hG5.2 _ (ST_f (by omega))).trans ((hG4.2 _ (ST_f (by omega))).trans ((hG3.2 _ (ST_f (by omega))).trans e0))))) rfl ?_
    refine P_getfN (i := 1) d_CM_feed_60 ok_Tape (by decide) L_CM_107 k7 rfl ?_
    exact P_iret d_CM_feed_63 rfl (le_b rfl) (le_b rfl) ⟨by rw [fdR_t (by omega)], hI7, hF7, by rw [fdL_t (by omega)]; exact k7⟩
  · have ic2 := of_decide_eq_false (bi_0 c2)
    refine P_iconst (v := (-1)) d_CM_feed_12 (by decide) ?_
    exact P_iret d_CM_feed_13 rfl (le_b rfl) (le_b rfl) ⟨by rw [fdR_f (by omega)], hI, Fr.rf, by rw [fdL_f (by omega)]; exact et⟩
