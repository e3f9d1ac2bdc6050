/-! the class: what changes it (by program) -/
theorem s_Past_nextPlace {G : pG} {w : pW} (hI : I w) {el ct : Nat} {fd : Nat → Int32} (ep : w.2 169 = paE el ct) (he : el ≤ 15) (hc : ct ≤ 16) (ed : w.2 170 = .inl (0, 16, .inl fd)) : PM G M_Past_nextPlace 0 0 0 [.ref 169] w (fun r w' => r = some (.int (nI (pPl el ct))) ∧ I w' ∧ Fr SP w w' ∧ w'.2 169 = paE (pEl el ct) (pCt ct) ∧ w'.2 170 = .inl (0, 16, .inl fd)) := by
  refine PM_of pn_Past_nextPlace (le_b rfl) ?_
  show PW _ _ _ _ _ _ (0, [(0, .ref 169)], [], w)
  refine P_aload_n d_Past_nextPlace_0 rfl ?_
  refine P_getf (i := 4) d_Past_nextPlace_1 ok_Past (by decide) L_Past_23 ep rfl ?_
  refine P_bipush (v := 16) d_Past_nextPlace_4 (by decide) ?_
  refine P_icmp_ne 25 d_Past_nextPlace_6 (by decide) (fun c1 => ?_) (fun c1 => ?_)
  · have ic1 : ct ≠ 16 := fun q => c1 (congrArg nI q)
    refine P_aload_n d_Past_nextPlace_25 rfl ?_
    refine P_dup d_Past_nextPlace_26 rfl ?_
    refine P_getf (i := 4) d_Past_nextPlace_27 ok_Past (by decide) L_Past_23 ep rfl ?_
    refine P_iconst (v := 1) d_Past_nextPlace_30 (by decide) ?_
    refine P_iaddN (a := ct) (b := 1) d_Past_nextPlace_31 ?_
    show PW _ _ _ _ _ _ (32, [(0, .ref 169)], [.int (nI (ct + 1)), .ref 169], w)
    refine P_putG (i := 4) d_Past_nextPlace_32 ok_Past (by decide) rfl L_Past_23 ep (fun _ => rfl) (fun _ => rfl) (fun w2 e2 s2 n2 z2 => ?_)
    have hI2 : I w2 := hI.setPa  (show w2 = (_, wu _ 169 (paE el (ct + 1))) from e2) (by omega) (by omega)
    have hF2 : Fr SP w w2 := Fr.set Fr.rf e2 (SP_t (by omega))
    show PW _ _ _ _ _ _ (35, [(0, .ref 169)], [], w2)
    refine P_aload_n d_Past_nextPlace_35 rfl ?_
    refine P_getf (i := 3) d_Past_nextPlace_36 ok_Past (by decide) L_Past_43 s2 rfl ?_
    refine P_aload_n d_Past_nextPlace_39 rfl ?_
    refine P_getf (i := 4) d_Past_nextPlace_40 ok_Past (by decide) L_Past_23 s2 rfl ?_
    refine P_iaddN (a := el) (b := (ct + 1)) d_Past_nextPlace_43 ?_
    show PW _ _ _ _ _ _ (44, [(0, .ref 169)], [.int (nI (el + (ct + 1)))], w2)
    refine P_iconst (v := 1) d_Past_nextPlace_44 (by decide) ?_
    refine P_isubN (a := (el + (ct + 1))) (b := 1) d_Past_nextPlace_45 (by omega) ?_
    show PW _ _ _ _ _ _ (46, [(0, .ref 169)], [.int (nI ((el + (ct + 1)) - 1))], w2)
    refine P_bipush (v := 16) d_Past_nextPlace_46 (by decide) ?_
    refine P_iremN (a := ((el + (ct + 1)) - 1)) (b := 16) d_Past_nextPlace_48 (by omega) (by omega) (by omega) ?_
    show PW _ _ _ _ _ _ (49, [(0, .ref 169)], [.int (nI (((el + (ct + 1)) - 1) % 16))], w2)
    exact P_iret d_Past_nextPlace_49 rfl (le_b rfl) (le_b rfl) ⟨by rw [show pPl el ct = (((el + (ct + 1)) - 1) % 16) from by unfold pPl; rw [show pEl el ct = el from if_neg ic1, show pCt ct = ct + 1 from if_neg ic1]], hI2, hF2, by rw [show pEl el ct = el from if_neg ic1, show pCt ct = ct + 1 from if_neg ic1]; exact s2, ((w_n e2 _ (by decide)).trans ed)⟩
  · have ic1 : ct = 16 := (nI_eq (by omega) (by omega)).mp c1
    refine P_aload_n d_Past_nextPlace_9 rfl ?_
    refine P_aload_n d_Past_nextPlace_10 rfl ?_
    refine P_getf (i := 3) d_Past_nextPlace_11 ok_Past (by decide) L_Past_43 ep rfl ?_
    refine P_iconst (v := 1) d_Past_nextPlace_14 (by decide) ?_
    refine P_iaddN (a := el) (b := 1) d_Past_nextPlace_15 ?_
    show PW _ _ _ _ _ _ (16, [(0, .ref 169)], [.int (nI (el + 1)), .ref 169], w)
    refine P_bipush (v := 16) d_Past_nextPlace_16 (by decide) ?_
    refine P_iremN (a := (el + 1)) (b := 16) d_Past_nextPlace_18 (by omega) (by omega) (by omega) ?_
    show PW _ _ _ _ _ _ (19, [(0, .ref 169)], [.int (nI ((el + 1) % 16)), .ref 169], w)
    refine P_putG (i := 3) d_Past_nextPlace_19 ok_Past (by decide) rfl L_Past_43 ep (fun _ => rfl) (fun _ => rfl) (fun w3 e3 s3 n3 z3 => ?_)
    have hI3 : I w3 := hI.setPa  (show w3 = (_, wu _ 169 (paE ((el + 1) % 16) ct)) from e3) (by omega) (by omega)
    have hF3 : Fr SP w w3 := Fr.set Fr.rf e3 (SP_t (by omega))
    show PW _ _ _ _ _ _ (22, [(0, .ref 169)], [], w3)
    refine P_goto 35 d_Past_nextPlace_22 (by decide) ?_
    refine P_aload_n d_Past_nextPlace_35 rfl ?_
    refine P_getf (i := 3) d_Past_nextPlace_36 ok_Past (by decide) L_Past_43 s3 rfl ?_
    refine P_aload_n d_Past_nextPlace_39 rfl ?_
    refine P_getf (i := 4) d_Past_nextPlace_40 ok_Past (by decide) L_Past_23 s3 rfl ?_
    refine P_iaddN (a := ((el + 1) % 16)) (b := ct) d_Past_nextPlace_43 ?_
    show PW _ _ _ _ _ _ (44, [(0, .ref 169)], [.int (nI (((el + 1) % 16) + ct))], w3)
    refine P_iconst (v := 1) d_Past_nextPlace_44 (by decide) ?_
    refine P_isubN (a := (((el + 1) % 16) + ct)) (b := 1) d_Past_nextPlace_45 (by omega) ?_
    show PW _ _ _ _ _ _ (46, [(0, .ref 169)], [.int (nI ((((el + 1) % 16) + ct) - 1))], w3)
    refine P_bipush (v := 16) d_Past_nextPlace_46 (by decide) ?_
    refine P_iremN (a := ((((el + 1) % 16) + ct) - 1)) (b := 16) d_Past_nextPlace_48 (by omega) (by omega) (by omega) ?_
    show PW _ _ _ _ _ _ (49, [(0, .ref 169)], [.int (nI (((((el + 1) % 16) + ct) - 1) % 16))], w3)
    exact P_iret d_Past_nextPlace_49 rfl (le_b rfl) (le_b rfl) ⟨by subst ic1; rfl, hI3, hF3, by subst ic1; exact s3, ((w_n e3 _ (by decide)).trans ed)⟩
theorem s_Past_made {G : pG} {w : pW} (hI : I w) {el ct : Nat} {fd : Nat → Int32} (ep : w.2 169 = paE el ct) (he : el ≤ 15) (hc : ct ≤ 16) (ed : w.2 170 = .inl (0, 16, .inl fd)) : PM G M_Past_made 1 0 0 [.ref 169] w (fun r w' => r = none ∧ I w' ∧ Fr SP w w' ∧ w'.2 169 = paE (pEl el ct) (pCt ct) ∧ w'.2 170 = .inl (0, 16, .inl (upd fd (pPl el ct) 0))) := by
  refine PM_of pn_Past_made (le_b rfl) ?_
  show PW _ _ _ _ _ _ (0, [(0, .ref 169)], [], w)
  refine P_aload_n d_Past_made_0 rfl ?_
  refine P_getf (i := 0) d_Past_made_1 ok_Past (by decide) L_Past_9 ep rfl ?_
  refine P_aload_n d_Past_made_4 rfl ?_
  refine P_callV (M := M_Past_made) (pc := 5) (as := []) (b := 169) d_Past_made_5 co_Past_nextPlace ok_Past ep L_Past_27 im_Past_nextPlace se_Past_nextPlace (s_Past_nextPlace hI ep (by omega) (by omega) ed) rfl ⟨by decide, by decide⟩ ⟨by decide, by decide⟩ (by exact le_b rfl) ?_ _ rfl
  rintro _ w1 ⟨rfl, hI1, hG1, ka1, kb1⟩
  have hF1 : Fr SP w w1 := Fr.tr Fr.rf hG1
  have hpl := pPl_lt el ct
  have hpe := pEl_le (ct := ct) he
  have hpc2 := pCt_le hc
  show PW _ _ _ _ _ _ (8, [(0, .ref 169)], [.int (nI (pPl el ct)), .ref 170], w1)
  refine P_iconst (v := 0) d_Past_made_8 (by decide) ?_
  refine P_iastG (j := pPl el ct) d_Past_made_9 kb1 (by decide) (ix_nI (by omega)) (by omega) (fun w2 e2 s2 n2 z2 => ?_)
  have hI2 : I w2 := hI1.setI e2 kc_170
  have hF2 : Fr SP w w2 := Fr.set hF1 e2 (SP_t (by omega))
  show PW _ _ _ _ _ _ (10, [(0, .ref 169)], [], w2)
  exact P_vret d_Past_made_10 rfl (le_b rfl) (le_b rfl) ⟨rfl, hI2, hF2, ((w_n e2 _ (by decide)).trans ka1), s2⟩
theorem s_Past_told {G : pG} {w : pW} (hI : I w) {el ct : Nat} {fd : Nat → Int32} (ep : w.2 169 = paE el ct) (he : el ≤ 15) (hc : ct ≤ 16) (ed : w.2 170 = .inl (0, 16, .inl fd)) : PM G M_Past_told 1 0 0 [.ref 169] w (fun r w' => r = none ∧ I w' ∧ Fr SP w w' ∧ w'.2 169 = paE (pEl el ct) (pCt ct) ∧ w'.2 170 = .inl (0, 16, .inl (upd fd (pPl el ct) 2))) := by
  refine PM_of pn_Past_told (le_b rfl) ?_
  show PW _ _ _ _ _ _ (0, [(0, .ref 169)], [], w)
  refine P_aload_n d_Past_told_0 rfl ?_
  refine P_getf (i := 0) d_Past_told_1 ok_Past (by decide) L_Past_9 ep rfl ?_
  refine P_aload_n d_Past_told_4 rfl ?_
  refine P_callV (M := M_Past_told) (pc := 5) (as := []) (b := 169) d_Past_told_5 co_Past_nextPlace ok_Past ep L_Past_27 im_Past_nextPlace se_Past_nextPlace (s_Past_nextPlace hI ep (by omega) (by omega) ed) rfl ⟨by decide, by decide⟩ ⟨by decide, by decide⟩ (by exact le_b rfl) ?_ _ rfl
  rintro _ w1 ⟨rfl, hI1, hG1, ka1, kb1⟩
  have hF1 : Fr SP w w1 := Fr.tr Fr.rf hG1
  have hpl := pPl_lt el ct
  have hpe := pEl_le (ct := ct) he
  have hpc2 := pCt_le hc
  show PW _ _ _ _ _ _ (8, [(0, .ref 169)], [.int (nI (pPl el ct)), .ref 170], w1)
  refine P_iconst (v := 2) d_Past_told_8 (by decide) ?_
  refine P_iastG (j := pPl el ct) d_Past_told_9 kb1 (by decide) (ix_nI (by omega)) (by omega) (fun w2 e2 s2 n2 z2 => ?_)
  have hI2 : I w2 := hI1.setI e2 kc_170
  have hF2 : Fr SP w w2 := Fr.set hF1 e2 (SP_t (by omega))
  show PW _ _ _ _ _ _ (10, [(0, .ref 169)], [], w2)
  exact P_vret d_Past_told_10 rfl (le_b rfl) (le_b rfl) ⟨rfl, hI2, hF2, ((w_n e2 _ (by decide)).trans ka1), s2⟩
theorem s_Rows_copy_9_24 {G : pG} {w : pW} {p : Nat} {fp : Nat → Int64} (hp : w.2 p = .inl (1, 9, .inr (.inl fp))) {o : Nat} {fo : Nat → Int64} (ho : w.2 o = .inl (1, 24, .inr (.inl fo))) (hxo : o < 1000000) (np : p ≠ o) : PM G M_Rows_copy 1 0 0 [.ref p, .ref o] w (fun r w' => r = none ∧ W1 o 24 w w') := by
  refine PM_of pn_Rows_copy (le_b rfl) ?_
  show PW _ _ _ _ _ _ (0, [(0, .ref p), (1, .ref o)], [], w)
  have hW0 : W1 o 24 w w := W1.rf ho
  refine P_aload_n d_Rows_copy_0 rfl ?_
  refine P_iconst (v := 0) d_Rows_copy_1 (by decide) ?_
  refine P_aload_n d_Rows_copy_2 rfl ?_
  refine P_iconst (v := 0) d_Rows_copy_3 (by decide) ?_
  refine P_aload_n d_Rows_copy_4 rfl ?_
  refine P_alen (v := 9) d_Rows_copy_5 hp rfl ?_
  refine P_aload_n d_Rows_copy_6 rfl ?_
  refine P_alen (v := 24) d_Rows_copy_7 ho rfl ?_
  refine P_mmini d_Rows_copy_8 L_Rows_25 st_min in_Math cd_min ⟨by decide, by decide, by decide, by decide⟩ (by exact le_b rfl) ?_
  show PW _ _ _ _ _ _ (11, [(0, .ref p), (1, .ref o)], [.int 9, .int 0, .ref o, .int 0, .ref p], w)
  refine P_copylG (i := 0) (j := 0) (q := 9) d_Rows_copy_11 L_Rows_29 st_acopy.1 st_acopy.2.1 st_acopy.2.2 hp ho hxo ⟨by decide, by decide⟩ ⟨by decide, by decide⟩ ⟨by decide, by decide⟩ (by omega) (by omega) ⟨by decide, by decide⟩ (by exact le_b rfl) (fun w1 e1 s1 n1 z1 => ?_)
  generalize va_cpy _ _ _ _ _ = g2 at e1 s1
  have hW1 : W1 o 24 w w1 := W1.st hW0 e1
  show PW _ _ _ _ _ _ (14, [(0, .ref p), (1, .ref o)], [], w1)
  exact P_vret d_Rows_copy_14 rfl (le_b rfl) (le_b rfl) ⟨rfl, hW1⟩
theorem s_Rows_copy_24_9 {G : pG} {w : pW} {p : Nat} {fp : Nat → Int64} (hp : w.2 p = .inl (1, 24, .inr (.inl fp))) {o : Nat} {fo : Nat → Int64} (ho : w.2 o = .inl (1, 9, .inr (.inl fo))) (hxo : o < 1000000) (np : p ≠ o) : PM G M_Rows_copy 1 0 0 [.ref p, .ref o] w (fun r w' => r = none ∧ W1 o 9 w w') := by
  refine PM_of pn_Rows_copy (le_b rfl) ?_
  show PW _ _ _ _ _ _ (0, [(0, .ref p), (1, .ref o)], [], w)
  have hW0 : W1 o 9 w w := W1.rf ho
  refine P_aload_n d_Rows_copy_0 rfl ?_
  refine P_iconst (v := 0) d_Rows_copy_1 (by decide) ?_
  refine P_aload_n d_Rows_copy_2 rfl ?_
  refine P_iconst (v := 0) d_Rows_copy_3 (by decide) ?_
  refine P_aload_n d_Rows_copy_4 rfl ?_
  refine P_alen (v := 24) d_Rows_copy_5 hp rfl ?_
  refine P_aload_n d_Rows_copy_6 rfl ?_
  refine P_alen (v := 9) d_Rows_copy_7 ho rfl ?_
  refine P_mmini d_Rows_copy_8 L_Rows_25 st_min in_Math cd_min ⟨by decide, by decide, by decide, by decide⟩ (by exact le_b rfl) ?_
  show PW _ _ _ _ _ _ (11, [(0, .ref p), (1, .ref o)], [.int 9, .int 0, .ref o, .int 0, .ref p], w)
  refine P_copylG (i := 0) (j := 0) (q := 9) d_Rows_copy_11 L_Rows_29 st_acopy.1 st_acopy.2.1 st_acopy.2.2 hp ho hxo ⟨by decide, by decide⟩ ⟨by decide, by decide⟩ ⟨by decide, by decide⟩ (by omega) (by omega) ⟨by decide, by decide⟩ (by exact le_b rfl) (fun w1 e1 s1 n1 z1 => ?_)
  generalize va_cpy _ _ _ _ _ = g2 at e1 s1
  have hW1 : W1 o 9 w w1 := W1.st hW0 e1
  show PW _ _ _ _ _ _ (14, [(0, .ref p), (1, .ref o)], [], w1)
  exact P_vret d_Rows_copy_14 rfl (le_b rfl) (le_b rfl) ⟨rfl, hW1⟩
theorem s_Past_dropped {G : pG} {w : pW} (hI : I w) {el ct : Nat} {fd : Nat → Int32} (ep : w.2 169 = paE el ct) (he : el ≤ 15) (hc : ct ≤ 16) (ed : w.2 170 = .inl (0, 16, .inl fd)) (m : Int32) {u : Nat} (hlu : u < 487) (hku : Kc u = (1, 9, 0)) (hu : u < 169 ∨ 189 ≤ u) : PM G M_Past_dropped 2 0 0 [.ref 169, .int m, .ref u] w (fun r w' => r = none ∧ I w' ∧ Fr SP w w' ∧ w'.2 169 = paE (pEl el ct) (pCt ct) ∧ w'.2 170 = .inl (0, 16, .inl (upd fd (pPl el ct) 1))) := by
  refine PM_of pn_Past_dropped (le_b rfl) ?_
  show PW _ _ _ _ _ _ (0, [(0, .ref 169), (1, .int m), (2, .ref u)], [], w)
  refine P_aload_n d_Past_dropped_0 rfl ?_
  refine P_callV (M := M_Past_dropped) (pc := 1) (as := []) (b := 169) d_Past_dropped_1 co_Past_nextPlace ok_Past ep L_Past_27 im_Past_nextPlace se_Past_nextPlace (s_Past_nextPlace hI ep (by omega) (by omega) ed) rfl ⟨by decide, by decide⟩ ⟨by decide, by decide⟩ (by exact le_b rfl) ?_ _ rfl
  rintro _ w1 ⟨rfl, hI1, hG1, ka1, kb1⟩
  have hF1 : Fr SP w w1 := Fr.tr Fr.rf hG1
  have hpl := pPl_lt el ct
  have hpe := pEl_le (ct := ct) he
  have hpc2 := pCt_le hc
  show PW _ _ _ _ _ _ (4, [(0, .ref 169), (1, .int m), (2, .ref u)], [.int (nI (pPl el ct))], w1)
  refine P_istore_n d_Past_dropped_4 (by decide) rfl ?_
  refine P_aload_n d_Past_dropped_5 rfl ?_
  refine P_getf (i := 0) d_Past_dropped_6 ok_Past (by decide) L_Past_9 ka1 rfl ?_
  refine P_iload_n d_Past_dropped_9 rfl ?_
  refine P_iconst (v := 1) d_Past_dropped_10 (by decide) ?_
  refine P_iastG (j := pPl el ct) d_Past_dropped_11 kb1 (by decide) (ix_nI (by omega)) (by omega) (fun w2 e2 s2 n2 z2 => ?_)
  have hI2 : I w2 := hI1.setI e2 kc_170
  have hF2 : Fr SP w w2 := Fr.set hF1 e2 (SP_t (by omega))
  show PW _ _ _ _ _ _ (12, [(0, .ref 169), (1, .int m), (2, .ref u), (3, .int (nI (pPl el ct)))], [], w2)
  refine P_aload_n d_Past_dropped_12 rfl ?_
  refine P_getf (i := 1) d_Past_dropped_13 ok_Past (by decide) L_Past_15 ((w_n e2 _ (by decide)).trans ka1) rfl ?_
  refine P_iload_n d_Past_dropped_16 rfl ?_
  refine P_iload_n d_Past_dropped_17 rfl ?_
  obtain ⟨f3, f3e⟩ := hI2.ints (r := 171) (by decide) kc_171
  refine P_iastG (j := pPl el ct) d_Past_dropped_18 f3e (by decide) (ix_nI (by omega)) (by omega) (fun w4 e4 s4 n4 z4 => ?_)
  generalize upd _ _ _ = g5 at e4 s4
  have hI4 : I w4 := hI2.setI e4 kc_171
  have hF4 : Fr SP w w4 := Fr.set hF2 e4 (SP_t (by omega))
  show PW _ _ _ _ _ _ (19, [(0, .ref 169), (1, .int m), (2, .ref u), (3, .int (nI (pPl el ct)))], [], w4)
  refine P_aload_n d_Past_dropped_19 rfl ?_
  refine P_aload_n d_Past_dropped_20 rfl ?_
  refine P_getf (i := 2) d_Past_dropped_21 ok_Past (by decide) L_Past_20 ((w_n e4 _ (by decide)).trans ((w_n e2 _ (by decide)).trans ka1)) rfl ?_
  refine P_iload_n d_Past_dropped_24 rfl ?_
  refine P_aald (j := pPl el ct) (q := 172 + 1 + (pPl el ct)) d_Past_dropped_25 (hI4.rows (r := 172) (by decide) kc_172) rfl (ix_nI (by omega)) (by omega) (rows_at (by omega)) ?_
  obtain ⟨f6, f6e⟩ := hI4.row (r := u) (by omega) hku
  obtain ⟨f7, f7e⟩ := hI4.row (r := 172 + 1 + (pPl el ct)) (by omega) (Kc_pa (by omega))
  refine P_callS (M := M_Past_dropped) (pc := 26) (as := [.ref u, .ref (172 + 1 + (pPl el ct))]) d_Past_dropped_26 co_Rows_copy L_Past_31 sm_Rows_copy (s_Rows_copy_9_24 f6e f7e (by omega) (by omega)) rfl ⟨by decide, by decide⟩ ⟨by decide, by decide⟩ (by exact le_b rfl) ?_ _ rfl
  rintro _ w8 ⟨rfl, g8, e8⟩
  have s8 := w_s e8
  have hI8 : I w8 := hI4.setL e8 (Kc_pa (by omega))
  have hF8 : Fr SP w w8 := Fr.set hF4 e8 (SP_t (by omega))
  show PW _ _ _ _ _ _ (29, [(0, .ref 169), (1, .int m), (2, .ref u), (3, .int (nI (pPl el ct)))], [], w8)
  exact P_vret d_Past_dropped_29 rfl (le_b rfl) (le_b rfl) ⟨rfl, hI8, hF8, ((w_n e8 _ (by omega)).trans ((w_n e4 _ (by decide)).trans ((w_n e2 _ (by decide)).trans ka1))), ((w_n e8 _ (by omega)).trans ((w_n e4 _ (by decide)).trans s2))⟩
theorem s_Past_moved {G : pG} {w : pW} (hI : I w) {el ct : Nat} {fd : Nat → Int32} (ep : w.2 169 = paE el ct) (he : el ≤ 15) (hc : ct ≤ 16) (ed : w.2 170 = .inl (0, 16, .inl fd)) {b : Nat} (hb : b = 1 ∨ b = 77) : PM G M_Past_moved 1 0 0 [.ref 169, .ref (b + 19)] w (fun r w' => r = none ∧ I w' ∧ Fr SP w w' ∧ w'.2 169 = paE (pEl el ct) (pCt ct) ∧ w'.2 170 = .inl (0, 16, .inl (upd fd (pPl el ct) 3))) := by
  refine PM_of pn_Past_moved (le_b rfl) ?_
  show PW _ _ _ _ _ _ (0, [(0, .ref 169), (1, .ref (b + 19))], [], w)
  obtain ⟨hb1, hb2⟩ := pl_rng hb
  refine P_aload_n d_Past_moved_0 rfl ?_
  refine P_callV (M := M_Past_moved) (pc := 1) (as := []) (b := 169) d_Past_moved_1 co_Past_nextPlace ok_Past ep L_Past_27 im_Past_nextPlace se_Past_nextPlace (s_Past_nextPlace hI ep (by omega) (by omega) ed) rfl ⟨by decide, by decide⟩ ⟨by decide, by decide⟩ (by exact le_b rfl) ?_ _ rfl
  rintro _ w1 ⟨rfl, hI1, hG1, ka1, kb1⟩
  have hF1 : Fr SP w w1 := Fr.tr Fr.rf hG1
  have hpl := pPl_lt el ct
  have hpe := pEl_le (ct := ct) he
  have hpc2 := pCt_le hc
  show PW _ _ _ _ _ _ (4, [(0, .ref 169), (1, .ref (b + 19))], [.int (nI (pPl el ct))], w1)
  refine P_istore_n d_Past_moved_4 (by decide) rfl ?_
  refine P_aload_n d_Past_moved_5 rfl ?_
  refine P_getf (i := 0) d_Past_moved_6 ok_Past (by decide) L_Past_9 ka1 rfl ?_
  refine P_iload_n d_Past_moved_9 rfl ?_
  refine P_iconst (v := 3) d_Past_moved_10 (by decide) ?_
  refine P_iastG (j := pPl el ct) d_Past_moved_11 kb1 (by decide) (ix_nI (by omega)) (by omega) (fun w2 e2 s2 n2 z2 => ?_)
  have hI2 : I w2 := hI1.setI e2 kc_170
  have hF2 : Fr SP w w2 := Fr.set hF1 e2 (SP_t (by omega))
  show PW _ _ _ _ _ _ (12, [(0, .ref 169), (1, .ref (b + 19)), (2, .int (nI (pPl el ct)))], [], w2)
  refine P_iconst (v := 0) d_Past_moved_12 (by decide) ?_
  refine P_istore_n d_Past_moved_13 (by decide) rfl ?_
  refine PW_ind (σ := pW) (8) (fun jj ss => I (ss) ∧ Fr SP w (ss) ∧ (ss).2 169 = .inr (5, [.ref 170, .ref 171, .ref 172, .int (nI (pEl el ct)), .int (nI (pCt ct))]) ∧ (ss).2 170 = .inl (0, 16, .inl (upd fd (pPl el ct) 3))) (fun jj ss => (14, [(0, .ref 169), (1, .ref (b + 19)), (2, .int (nI (pPl el ct))), (3, .int (nI jj))], [], ss)) ?_ ?_ 0 (w2) (by omega) ⟨hI2, hF2, ((w_n e2 _ (by decide)).trans ka1), s2⟩
  · rintro uj3 ⟨hIj3, hFj3, kj3_0, kj3_1⟩
    show PW _ _ _ _ _ _ (14, [(0, .ref 169), (1, .ref (b + 19)), (2, .int (nI (pPl el ct))), (3, .int 8)], [], uj3)
    refine P_iload_n d_Past_moved_14 rfl ?_
    refine P_bipush (v := 8) d_Past_moved_15 (by decide) ?_
    refine P_icmp_ge 43 d_Past_moved_17 (by decide) (fun _ => ?_) (fun h => absurd (by decide) h)
    exact P_vret d_Past_moved_43 rfl (le_b rfl) (le_b rfl) ⟨rfl, hIj3, hFj3, kj3_0, kj3_1⟩
  · rintro j3 uj3 hj3 ⟨hIj3, hFj3, kj3_0, kj3_1⟩ kkj3
    show PW _ _ _ _ _ _ (14, [(0, .ref 169), (1, .ref (b + 19)), (2, .int (nI (pPl el ct))), (3, .int (nI j3))], [], uj3)
    refine P_iload_n d_Past_moved_14 rfl ?_
    refine P_bipush (v := 8) d_Past_moved_15 (by decide) ?_
    refine P_icmp_ge 43 d_Past_moved_17 (by decide) (fun h => absurd h (nI_geF (a := j3) (b := 8) (by omega) (by omega))) (fun _ => ?_)
    refine P_aload_n d_Past_moved_20 rfl ?_
    refine P_iload_n d_Past_moved_21 rfl ?_
    refine P_aald (j := j3) (q := b + 19 + 1 + j3) d_Past_moved_22 (hIj3.ps hb) rfl (ix_nI (by omega)) (by omega) (rows_at (by omega)) ?_
    refine P_iconst (v := 0) d_Past_moved_23 (by decide) ?_
    refine P_aload_n d_Past_moved_24 rfl ?_
    refine P_getf (i := 2) d_Past_moved_25 ok_Past (by decide) L_Past_20 kj3_0 rfl ?_
    refine P_iload_n d_Past_moved_28 rfl ?_
    refine P_aald (j := pPl el ct) (q := 172 + 1 + (pPl el ct)) d_Past_moved_29 (hIj3.rows (r := 172) (by decide) kc_172) rfl (ix_nI (by omega)) (by omega) (rows_at (by omega)) ?_
    refine P_iconst (v := 3) d_Past_moved_30 (by decide) ?_
    refine P_iload_n d_Past_moved_31 rfl ?_
    refine P_imulN (a := 3) (b := j3) d_Past_moved_32 ?_
    show PW _ _ _ _ _ _ (33, [(0, .ref 169), (1, .ref (b + 19)), (2, .int (nI (pPl el ct))), (3, .int (nI j3))], [.int (nI (3 * j3)), .ref (172 + 1 + (pPl el ct)), .int 0, .ref (b + 19 + 1 + j3)], uj3)
    refine P_iconst (v := 3) d_Past_moved_33 (by decide) ?_
    obtain ⟨f4, f4e⟩ := hIj3.row (r := b + 19 + 1 + j3) (by omega) (Kc_p hb (by omega))
    obtain ⟨f5, f5e⟩ := hIj3.row (r := 172 + 1 + (pPl el ct)) (by omega) (Kc_pa (by omega))
    refine P_copylG (i := 0) (j := 3 * j3) (q := 3) d_Past_moved_34 L_Past_37 st_acopy.1 st_acopy.2.1 st_acopy.2.2 f4e f5e (by omega) ⟨by decide, by decide⟩ (ix_nI (by omega)) ⟨by decide, by decide⟩ (by omega) (by omega) ⟨by decide, by decide⟩ (by exact le_b rfl) (fun w6 e6 s6 n6 z6 => ?_)
    generalize va_cpy _ _ _ _ _ = g7 at e6 s6
    have hI6 : I w6 := hIj3.setL e6 (Kc_pa (by omega))
    have hF6 : Fr SP w w6 := Fr.set hFj3 e6 (SP_t (by omega))
    show PW _ _ _ _ _ _ (37, [(0, .ref 169), (1, .ref (b + 19)), (2, .int (nI (pPl el ct))), (3, .int (nI j3))], [], w6)
    refine P_iinc (v := nI (j3 + 1)) d_Past_moved_37 (by decide) rfl (nI_add j3 1) rfl ?_
    refine P_goto 14 d_Past_moved_40 (by decide) ?_
    exact kkj3 (w6) ⟨hI6, hF6, ((w_n e6 _ (by omega)).trans kj3_0), ((w_n e6 _ (by omega)).trans kj3_1)⟩
theorem s_Plane_addMap {G : pG} {w : pW} (hI : I w) {b : Nat} (hb : b = 1 ∨ b = 77) {lc qc mc pc : Nat} (eb : w.2 b = plE b lc qc mc pc) (hlc : lc ≤ 900) (hqc : qc ≤ 8) (hmc : mc ≤ 16) (hpc : pc ≤ 8) {u : Nat} (hlu : u < 487) (hku : Kc u = (1, 9, 0)) : PM G M_Plane_addMap 2 0 0 [.ref b, .ref u] w (fun r w' => r = none ∧ I w' ∧ Fr (SQ b) w w' ∧ ∃ m', m' ≤ 16 ∧ (mc < 16 → m' = mc + 1) ∧ w'.2 b = plE b lc qc m' pc) := by
  refine PM_of pn_Plane_addMap (le_b rfl) ?_
  show PW _ _ _ _ _ _ (0, [(0, .ref b), (1, .ref u)], [], w)
  obtain ⟨hb1, hb2⟩ := pl_rng hb
  refine P_aload_n d_Plane_addMap_0 rfl ?_
  refine P_getf (i := 5) d_Plane_addMap_1 ok_Plane (by decide) L_Plane_33 eb rfl ?_
  refine P_bipush (v := 16) d_Plane_addMap_4 (by decide) ?_
  refine P_icmp_ge 32 d_Plane_addMap_6 (by decide) (fun c1 => ?_) (fun c1 => ?_)
  · have ic1 : mc ≥ 16 := nI_get (by omega) (by omega) c1
    exact P_vret d_Plane_addMap_32 rfl (le_b rfl) (le_b rfl) ⟨rfl, hI, Fr.rf, mc, by omega, (fun h => by omega), eb⟩
  · have ic1 : mc < 16 := nI_gef (by omega) (by omega) c1
    refine P_aload_n d_Plane_addMap_9 rfl ?_
    refine P_aload_n d_Plane_addMap_10 rfl ?_
    refine P_getf (i := 1) d_Plane_addMap_11 ok_Plane (by decide) L_Plane_19 eb rfl ?_
    refine P_aload_n d_Plane_addMap_14 rfl ?_
    refine P_getf (i := 5) d_Plane_addMap_15 ok_Plane (by decide) L_Plane_33 eb rfl ?_
    refine P_aald (j := mc) (q := b + 2 + 1 + mc) d_Plane_addMap_18 (hI.ms hb) rfl (ix_nI (by omega)) (by omega) (rows_at (by omega)) ?_
    obtain ⟨f2, f2e⟩ := hI.row (r := u) (by omega) hku
    obtain ⟨f3, f3e⟩ := hI.row (r := b + 2 + 1 + mc) (by omega) (Kc_m hb (by omega))
    refine P_callS (M := M_Plane_addMap) (pc := 19) (as := [.ref u, .ref (b + 2 + 1 + mc)]) d_Plane_addMap_19 co_Rows_copy L_Plane_39 sm_Rows_copy (v_Rows_copy f2e f3e (by decide) (by omega)) rfl ⟨by decide, by decide⟩ ⟨by decide, by decide⟩ (by exact le_b rfl) ?_ _ rfl
    rintro _ w4 ⟨rfl, e4⟩
    have s4 := w_s e4
    generalize va_cpy _ _ _ _ _ = g5 at e4 s4
    have hI4 : I w4 := hI.setL e4 (Kc_m hb (by omega))
    have hF4 : Fr (SQ b) w w4 := Fr.set Fr.rf e4 (SQ_t (by omega))
    show PW _ _ _ _ _ _ (22, [(0, .ref b), (1, .ref u)], [], w4)
    refine P_aload_n d_Plane_addMap_22 rfl ?_
    refine P_dup d_Plane_addMap_23 rfl ?_
    refine P_getf (i := 5) d_Plane_addMap_24 ok_Plane (by decide) L_Plane_33 ((w_n e4 _ (by omega)).trans eb) rfl ?_
    refine P_iconst (v := 1) d_Plane_addMap_27 (by decide) ?_
    refine P_iaddN (a := mc) (b := 1) d_Plane_addMap_28 ?_
    show PW _ _ _ _ _ _ (29, [(0, .ref b), (1, .ref u)], [.int (nI (mc + 1)), .ref b], w4)
    refine P_putG (i := 5) d_Plane_addMap_29 ok_Plane (by decide) rfl L_Plane_33 ((w_n e4 _ (by omega)).trans eb) (fun _ => rfl) (fun _ => rfl) (fun w6 e6 s6 n6 z6 => ?_)
    have hI6 : I w6 := hI4.setP hb (show w6 = (_, wu _ b (plE b lc qc (mc + 1) pc)) from e6) (by omega) (by omega) (by omega) (by omega)
    have hF6 : Fr (SQ b) w w6 := Fr.set hF4 e6 (SQ_t (by omega))
    show PW _ _ _ _ _ _ (32, [(0, .ref b), (1, .ref u)], [], w6)
    exact P_vret d_Plane_addMap_32 rfl (le_b rfl) (le_b rfl) ⟨rfl, hI6, hF6, (mc + 1), by omega, (fun h => by omega), s6⟩
theorem s_Plane_removeMap {G : pG} {w : pW} (hI : I w) {b : Nat} (hb : b = 1 ∨ b = 77) {lc qc mc pc : Nat} (eb : w.2 b = plE b lc qc mc pc) (hlc : lc ≤ 900) (hqc : qc ≤ 8) (hmc : mc ≤ 16) (hpc : pc ≤ 8) (a : Int32) : PM G M_Plane_removeMap 2 0 0 [.ref b, .int a] w (fun r w' => r = none ∧ I w' ∧ Fr (SQ b) w w' ∧ ∃ m', m' ≤ 16 ∧ w'.2 b = plE b lc qc m' pc) := by
  refine PM_of pn_Plane_removeMap (le_b rfl) ?_
  show PW _ _ _ _ _ _ (0, [(0, .ref b), (1, .int a)], [], w)
  obtain ⟨hb1, hb2⟩ := pl_rng hb
  refine P_aload_n d_Plane_removeMap_0 rfl ?_
  refine P_iload_n d_Plane_removeMap_1 rfl ?_
  refine P_callV (M := M_Plane_removeMap) (pc := 2) (as := [.int a]) (b := b) d_Plane_removeMap_2 co_Plane_hasMap ok_Plane eb L_Plane_45 im_Plane_hasMap se_Plane_hasMap (s_Plane_hasMap eb hlc hqc hmc hpc a) rfl ⟨by decide, by decide⟩ ⟨by decide, by decide⟩ (by exact le_b rfl) ?_ _ rfl
  rintro _ u ⟨rfl, eu⟩
  subst u
  show PW _ _ _ _ _ _ (5, [(0, .ref b), (1, .int a)], [.int (bi (inN mc a))], w)
  refine P_if_eq 53 d_Plane_removeMap_5 (by decide) (fun c2 => ?_) (fun c2 => ?_)
  · exact P_vret d_Plane_removeMap_53 rfl (le_b rfl) (le_b rfl) ⟨rfl, hI, Fr.rf, mc, by omega, eb⟩
  · obtain ⟨aN, haN, rfl⟩ := inN_of (bi_1 c2) (by omega)
    refine P_iload_n d_Plane_removeMap_8 rfl ?_
    refine P_istore_n d_Plane_removeMap_9 (by decide) rfl ?_
    refine PW_ind (σ := pW) ((mc - 1)) (fun jj ss => I (ss) ∧ Fr (SQ b) w (ss) ∧ (ss).2 b = .inr (1, [.ref (b + 1), .ref (b + 2), .ref (b + 19), .int (nI lc), .int (nI qc), .int (nI mc), .int (nI pc)])) (fun jj ss => (10, [(0, .ref b), (1, .int (nI aN)), (2, .int (nI jj))], [], ss)) ?_ ?_ aN (w) (by omega) ⟨hI, Fr.rf, eb⟩
    · rintro uj3 ⟨hIj3, hFj3, kj3_0⟩
      show PW _ _ _ _ _ _ (10, [(0, .ref b), (1, .int (nI aN)), (2, .int (nI (mc - 1)))], [], uj3)
      refine P_iload_n d_Plane_removeMap_10 rfl ?_
      refine P_aload_n d_Plane_removeMap_11 rfl ?_
      refine P_getf (i := 5) d_Plane_removeMap_12 ok_Plane (by decide) L_Plane_33 kj3_0 rfl ?_
      refine P_iconst (v := 1) d_Plane_removeMap_15 (by decide) ?_
      refine P_isubN (a := mc) (b := 1) d_Plane_removeMap_16 (by omega) ?_
      show PW _ _ _ _ _ _ (17, [(0, .ref b), (1, .int (nI aN)), (2, .int (nI (mc - 1)))], [.int (nI (mc - 1)), .int (nI (mc - 1))], uj3)
      refine P_icmp_ge 43 d_Plane_removeMap_17 (by decide) (fun _ => ?_) (fun h => absurd (Int32.le_refl _) h)
      refine P_aload_n d_Plane_removeMap_43 rfl ?_
      refine P_dup d_Plane_removeMap_44 rfl ?_
      refine P_getf (i := 5) d_Plane_removeMap_45 ok_Plane (by decide) L_Plane_33 kj3_0 rfl ?_
      refine P_iconst (v := 1) d_Plane_removeMap_48 (by decide) ?_
      refine P_isubN (a := mc) (b := 1) d_Plane_removeMap_49 (by omega) ?_
      show PW _ _ _ _ _ _ (50, [(0, .ref b), (1, .int (nI aN)), (2, .int (nI (mc - 1)))], [.int (nI (mc - 1)), .ref b], uj3)
      refine P_putG (i := 5) d_Plane_removeMap_50 ok_Plane (by decide) rfl L_Plane_33 kj3_0 (fun _ => rfl) (fun _ => rfl) (fun w4 e4 s4 n4 z4 => ?_)
      have hI4 : I w4 := hIj3.setP hb (show w4 = (_, wu _ b (plE b lc qc (mc - 1) pc)) from e4) (by omega) (by omega) (by omega) (by omega)
      have hF4 : Fr (SQ b) w w4 := Fr.set hFj3 e4 (SQ_t (by omega))
      show PW _ _ _ _ _ _ (53, [(0, .ref b), (1, .int (nI aN)), (2, .int (nI (mc - 1)))], [], w4)
      exact P_vret d_Plane_removeMap_53 rfl (le_b rfl) (le_b rfl) ⟨rfl, hI4, hF4, (mc - 1), by omega, s4⟩
    · rintro j3 uj3 hj3 ⟨hIj3, hFj3, kj3_0⟩ kkj3
      show PW _ _ _ _ _ _ (10, [(0, .ref b), (1, .int (nI aN)), (2, .int (nI j3))], [], uj3)
      refine P_iload_n d_Plane_removeMap_10 rfl ?_
      refine P_aload_n d_Plane_removeMap_11 rfl ?_
      refine P_getf (i := 5) d_Plane_removeMap_12 ok_Plane (by decide) L_Plane_33 kj3_0 rfl ?_
      refine P_iconst (v := 1) d_Plane_removeMap_15 (by decide) ?_
      refine P_isubN (a := mc) (b := 1) d_Plane_removeMap_16 (by omega) ?_
      show PW _ _ _ _ _ _ (17, [(0, .ref b), (1, .int (nI aN)), (2, .int (nI j3))], [.int (nI (mc - 1)), .int (nI j3)], uj3)
      refine P_icmp_ge 43 d_Plane_removeMap_17 (by decide) (fun h => absurd h (nI_geF (a := j3) (b := (mc - 1)) (by omega) (by omega))) (fun _ => ?_)
      refine P_aload_n d_Plane_removeMap_20 rfl ?_
      refine P_getf (i := 1) d_Plane_removeMap_21 ok_Plane (by decide) L_Plane_19 kj3_0 rfl ?_
      refine P_iload_n d_Plane_removeMap_24 rfl ?_
      refine P_iconst (v := 1) d_Plane_removeMap_25 (by decide) ?_
      refine P_iaddN (a := j3) (b := 1) d_Plane_removeMap_26 ?_
      show PW _ _ _ _ _ _ (27, [(0, .ref b), (1, .int (nI aN)), (2, .int (nI j3))], [.int (nI (j3 + 1)), .ref (b + 2)], uj3)
      refine P_aald (j := j3 + 1) (q := b + 2 + 1 + (j3 + 1)) d_Plane_removeMap_27 (hIj3.ms hb) rfl (ix_nI (by omega)) (by omega) (rows_at (by omega)) ?_
      refine P_aload_n d_Plane_removeMap_28 rfl ?_
      refine P_getf (i := 1) d_Plane_removeMap_29 ok_Plane (by decide) L_Plane_19 kj3_0 rfl ?_
      refine P_iload_n d_Plane_removeMap_32 rfl ?_
      refine P_aald (j := j3) (q := b + 2 + 1 + j3) d_Plane_removeMap_33 (hIj3.ms hb) rfl (ix_nI (by omega)) (by omega) (rows_at (by omega)) ?_
      obtain ⟨f5, f5e⟩ := hIj3.row (r := b + 2 + 1 + (j3 + 1)) (by omega) (Kc_m hb (by omega))
      obtain ⟨f6, f6e⟩ := hIj3.row (r := b + 2 + 1 + j3) (by omega) (Kc_m hb (by omega))
      refine P_callS (M := M_Plane_removeMap) (pc := 34) (as := [.ref (b + 2 + 1 + (j3 + 1)), .ref (b + 2 + 1 + j3)]) d_Plane_removeMap_34 co_Rows_copy L_Plane_39 sm_Rows_copy (v_Rows_copy f5e f6e (by decide) (by omega)) rfl ⟨by decide, by decide⟩ ⟨by decide, by decide⟩ (by exact le_b rfl) ?_ _ rfl
      rintro _ w7 ⟨rfl, e7⟩
      have s7 := w_s e7
      generalize va_cpy _ _ _ _ _ = g8 at e7 s7
      have hI7 : I w7 := hIj3.setL e7 (Kc_m hb (by omega))
      have hF7 : Fr (SQ b) w w7 := Fr.set hFj3 e7 (SQ_t (by omega))
      show PW _ _ _ _ _ _ (37, [(0, .ref b), (1, .int (nI aN)), (2, .int (nI j3))], [], w7)
      refine P_iinc (v := nI (j3 + 1)) d_Plane_removeMap_37 (by decide) rfl (nI_add j3 1) rfl ?_
      refine P_goto 10 d_Plane_removeMap_40 (by decide) ?_
      exact kkj3 (w7) ⟨hI7, hF7, ((w_n e7 _ (by omega)).trans kj3_0)⟩
theorem s_Plane_addPoint {G : pG} {w : pW} (hI : I w) {b : Nat} (hb : b = 1 ∨ b = 77) {lc qc mc pc : Nat} (eb : w.2 b = plE b lc qc mc pc) (hlc : lc ≤ 900) (hqc : qc ≤ 8) (hmc : mc ≤ 16) (hpc : pc ≤ 8) {u : Nat} (hlu : u < 487) (hku : Kc u = (1, 3, 0)) (hp8 : pc < 8) : PM G M_Plane_addPoint 3 0 0 [.ref b, .ref u] w (fun r w' => r = none ∧ I w' ∧ Fr (SQ b) w w' ∧ w'.2 b = plE b lc qc mc (pc + 1)) := by
  refine PM_of pn_Plane_addPoint (le_b rfl) ?_
  show PW _ _ _ _ _ _ (0, [(0, .ref b), (1, .ref u)], [], w)
  obtain ⟨hb1, hb2⟩ := pl_rng hb
  refine P_aload_n d_Plane_addPoint_0 rfl ?_
  refine P_getf (i := 6) d_Plane_addPoint_1 ok_Plane (by decide) L_Plane_36 eb rfl ?_
  refine P_bipush (v := 8) d_Plane_addPoint_4 (by decide) ?_
  refine P_icmp_ge 44 d_Plane_addPoint_6 (by decide) (fun c1 => ?_) (fun c1 => ?_)
  · have ic1 : pc ≥ 8 := nI_get (by omega) (by omega) c1
    exact P_vret d_Plane_addPoint_44 rfl (le_b rfl) (le_b rfl) (by exfalso; omega)
  · have ic1 : pc < 8 := nI_gef (by omega) (by omega) c1
    refine P_aload_n d_Plane_addPoint_9 rfl ?_
    refine P_aload_n d_Plane_addPoint_10 rfl ?_
    refine P_getf (i := 2) d_Plane_addPoint_11 ok_Plane (by decide) L_Plane_22 eb rfl ?_
    refine P_aload_n d_Plane_addPoint_14 rfl ?_
    refine P_getf (i := 6) d_Plane_addPoint_15 ok_Plane (by decide) L_Plane_36 eb rfl ?_
    refine P_aald (j := pc) (q := b + 19 + 1 + pc) d_Plane_addPoint_18 (hI.ps hb) rfl (ix_nI (by omega)) (by omega) (rows_at (by omega)) ?_
    obtain ⟨f2, f2e⟩ := hI.row (r := u) (by omega) hku
    obtain ⟨f3, f3e⟩ := hI.row (r := b + 19 + 1 + pc) (by omega) (Kc_p hb (by omega))
    refine P_callS (M := M_Plane_addPoint) (pc := 19) (as := [.ref u, .ref (b + 19 + 1 + pc)]) d_Plane_addPoint_19 co_Rows_copy L_Plane_39 sm_Rows_copy (v_Rows_copy f2e f3e (by decide) (by omega)) rfl ⟨by decide, by decide⟩ ⟨by decide, by decide⟩ (by exact le_b rfl) ?_ _ rfl
    rintro _ w4 ⟨rfl, e4⟩
    have s4 := w_s e4
    generalize va_cpy _ _ _ _ _ = g5 at e4 s4
    have hI4 : I w4 := hI.setL e4 (Kc_p hb (by omega))
    have hF4 : Fr (SQ b) w w4 := Fr.set Fr.rf e4 (SQ_t (by omega))
    show PW _ _ _ _ _ _ (22, [(0, .ref b), (1, .ref u)], [], w4)
    refine P_aload_n d_Plane_addPoint_22 rfl ?_
    refine P_getf (i := 2) d_Plane_addPoint_23 ok_Plane (by decide) L_Plane_22 ((w_n e4 _ (by omega)).trans eb) rfl ?_
    refine P_aload_n d_Plane_addPoint_26 rfl ?_
    refine P_getf (i := 6) d_Plane_addPoint_27 ok_Plane (by decide) L_Plane_36 ((w_n e4 _ (by omega)).trans eb) rfl ?_
    refine P_aald (j := pc) (q := b + 19 + 1 + pc) d_Plane_addPoint_30 (hI4.ps hb) rfl (ix_nI (by omega)) (by omega) (rows_at (by omega)) ?_
    refine P_callS (M := M_Plane_addPoint) (pc := 31) (as := [.ref (b + 19 + 1 + pc)]) d_Plane_addPoint_31 co_Rows_reduce L_Plane_49 sm_Rows_reduce (v_Rows_reduce s4 (by decide) (by decide) (by omega)) rfl ⟨by decide, by decide⟩ ⟨by decide, by decide⟩ (by exact le_b rfl) ?_ _ rfl
    rintro _ w6 ⟨rfl, e6⟩
    have s6 := w_s e6
    generalize rdC _ _ = g7 at e6 s6
    have hI6 : I w6 := hI4.setL e6 (Kc_p hb (by omega))
    have hF6 : Fr (SQ b) w w6 := Fr.set hF4 e6 (SQ_t (by omega))
    show PW _ _ _ _ _ _ (34, [(0, .ref b), (1, .ref u)], [], w6)
    refine P_aload_n d_Plane_addPoint_34 rfl ?_
    refine P_dup d_Plane_addPoint_35 rfl ?_
    refine P_getf (i := 6) d_Plane_addPoint_36 ok_Plane (by decide) L_Plane_36 ((w_n e6 _ (by omega)).trans ((w_n e4 _ (by omega)).trans eb)) rfl ?_
    refine P_iconst (v := 1) d_Plane_addPoint_39 (by decide) ?_
    refine P_iaddN (a := pc) (b := 1) d_Plane_addPoint_40 ?_
    show PW _ _ _ _ _ _ (41, [(0, .ref b), (1, .ref u)], [.int (nI (pc + 1)), .ref b], w6)
    refine P_putG (i := 6) d_Plane_addPoint_41 ok_Plane (by decide) rfl L_Plane_36 ((w_n e6 _ (by omega)).trans ((w_n e4 _ (by omega)).trans eb)) (fun _ => rfl) (fun _ => rfl) (fun w8 e8 s8 n8 z8 => ?_)
    have hI8 : I w8 := hI6.setP hb (show w8 = (_, wu _ b (plE b lc qc mc (pc + 1))) from e8) (by omega) (by omega) (by omega) (by omega)
    have hF8 : Fr (SQ b) w w8 := Fr.set hF6 e8 (SQ_t (by omega))
    show PW _ _ _ _ _ _ (44, [(0, .ref b), (1, .ref u)], [], w8)
    exact P_vret d_Plane_addPoint_44 rfl (le_b rfl) (le_b rfl) ⟨rfl, hI8, hF8, s8⟩
theorem s_CM_keepMap {G : pG} {w : pW} (hG : GO G) (hI : I w) (hJ : J w) {u : Nat} (hlu : u < 487) (hku : Kc u = (1, 9, 0)) : PM G M_CM_keepMap 3 0 0 [.ref 0, .ref u] w (fun r w' => (∃ v, r = some (.int v)) ∧ I w' ∧ Fr SA w w' ∧ J w') := by
  refine PM_of pn_CM_keepMap (le_b rfl) ?_
  show PW _ _ _ _ _ _ (0, [(0, .ref 0), (1, .ref u)], [], w)
  obtain ⟨b, hb, e0⟩ := hI.cm
  obtain ⟨hb1, hb2⟩ := pl_rng hb
  obtain ⟨lc, qc, mc, pc, eb, hlc, hqc, hmc, hpc⟩ := hI.pl hb
  obtain ⟨el, ct, he, hc, ep⟩ := hI.past
  obtain ⟨fd, ed⟩ := hI.ints (r := 170) (by decide) kc_170
  have hj := hJ b lc qc mc pc el ct fd e0 eb hpc ep he hc ed
  refine P_aload_n d_CM_keepMap_0 rfl ?_
  obtain ⟨f1, f1e⟩ := hI.row (r := u) (by omega) hku
  refine P_callS (M := M_CM_keepMap) (pc := 1) (as := [.ref u]) d_CM_keepMap_1 co_Maps_isLarge L_CM_272 sm_Maps_isLarge (s_Maps_isLarge f1e) rfl ⟨by decide, by decide⟩ ⟨by decide, by decide⟩ (by exact le_b rfl) ?_ _ rfl
  rintro _ u ⟨⟨v2, rfl⟩, eu⟩
  subst u
  show PW _ _ _ _ _ _ (4, [(0, .ref 0), (1, .ref u)], [.int (bi v2)], w)
  refine P_if_eq 10 d_CM_keepMap_4 (by decide) (fun c3 => ?_) (fun c3 => ?_)
  · refine P_aload_n d_CM_keepMap_10 rfl ?_
    refine P_getf (i := 0) d_CM_keepMap_11 ok_CM (by decide) L_CM_12 e0 rfl ?_
    refine P_getfN (i := 5) d_CM_keepMap_14 ok_Plane (by decide) L_CM_225 eb rfl ?_
    refine P_bipush (v := 16) d_CM_keepMap_17 (by decide) ?_
    refine P_icmp_ne 25 d_CM_keepMap_19 (by decide) (fun c4 => ?_) (fun c4 => ?_)
    · have ic4 : mc ≠ 16 := fun q => c4 (congrArg nI q)
      refine P_aload_n d_CM_keepMap_25 rfl ?_
      refine P_getf (i := 0) d_CM_keepMap_26 ok_CM (by decide) L_CM_12 e0 rfl ?_
      refine P_aload_n d_CM_keepMap_29 rfl ?_
      refine P_callV (M := M_CM_keepMap) (pc := 30) (as := [.ref u]) (b := b) d_CM_keepMap_30 co_Plane_addMap ok_Plane eb L_CM_446 im_Plane_addMap se_Plane_addMap (s_Plane_addMap hI hb eb (by omega) (by omega) (by omega) (by omega) (by omega) hku) rfl ⟨by decide, by decide⟩ ⟨by decide, by decide⟩ (by exact le_b rfl) ?_ _ rfl
      rintro _ w5 ⟨rfl, hI5, hG5, m5, hm5, hn5, k5⟩
      have hF5 : Fr SA w w5 := Fr.tr Fr.rf (Fr.pb ⟨hb1, hb2⟩ hG5)
      show PW _ _ _ _ _ _ (33, [(0, .ref 0), (1, .ref u)], [], w5)
      refine P_aload_n d_CM_keepMap_33 rfl ?_
      refine P_getf (i := 4) d_CM_keepMap_34 ok_CM (by decide) L_CM_47 ((hG5.2 _ (SQ_f (by omega))).trans e0) rfl ?_
      refine P_callV (M := M_CM_keepMap) (pc := 37) (as := []) (b := 169) d_CM_keepMap_37 co_Past_made ok_Past ((hG5.2 _ (SQ_f (by omega))).trans ep) L_CM_449 im_Past_made se_Past_made (s_Past_made hI5 ((hG5.2 _ (SQ_f (by omega))).trans ep) (by omega) (by omega) ((hG5.2 _ (SQ_f (by omega))).trans ed)) rfl ⟨by decide, by decide⟩ ⟨by decide, by decide⟩ (by exact le_b rfl) ?_ _ rfl
      rintro _ w6 ⟨rfl, hI6, hG6, ka6, kb6⟩
      have hF6 : Fr SA w w6 := Fr.tr hF5 (Fr.pa hG6)
      have hpl := pPl_lt el ct
      have hpe := pEl_le (ct := ct) he
      have hpc2 := pCt_le hc
      show PW _ _ _ _ _ _ (40, [(0, .ref 0), (1, .ref u)], [], w6)
      refine P_aload_n d_CM_keepMap_40 rfl ?_
      refine P_getf (i := 0) d_CM_keepMap_41 ok_CM (by decide) L_CM_12 ((hG6.2 _ (SP_f (by omega))).trans ((hG5.2 _ (SQ_f (by omega))).trans e0)) rfl ?_
      refine P_getfN (i := 5) d_CM_keepMap_44 ok_Plane (by decide) L_CM_225 ((hG6.2 _ (SP_f (by omega))).trans k5) rfl ?_
      refine P_iconst (v := 1) d_CM_keepMap_47 (by decide) ?_
      refine P_isubN (a := m5) (b := 1) d_CM_keepMap_48 (by omega) ?_
      show PW _ _ _ _ _ _ (49, [(0, .ref 0), (1, .ref u)], [.int (nI (m5 - 1))], w6)
      exact P_iret d_CM_keepMap_49 rfl (le_b rfl) (le_b rfl) ⟨⟨_, rfl⟩, hI6, hF6, J.mk (b := b) ((hG6.2 _ (SP_f (by omega))).trans ((hG5.2 _ (SQ_f (by omega))).trans e0)) ((hG6.2 _ (SP_f (by omega))).trans k5) (by omega) ka6 (by omega) (by omega) kb6 (tolds_d he hc (by decide) hj)⟩
    · have ic4 : mc = 16 := (nI_eq (by omega) (by omega)).mp c4
      refine P_bipush (v := (-3)) d_CM_keepMap_22 (by decide) ?_
      exact P_iret d_CM_keepMap_24 rfl (le_b rfl) (le_b rfl) ⟨⟨_, rfl⟩, hI, Fr.rf, J.mk (b := b) e0 eb (by omega) ep (by omega) (by omega) ed hj⟩
  · refine P_bipush (v := (-2)) d_CM_keepMap_7 (by decide) ?_
    exact P_iret d_CM_keepMap_9 rfl (le_b rfl) (le_b rfl) ⟨⟨_, rfl⟩, hI, Fr.rf, J.mk (b := b) e0 eb (by omega) ep (by omega) (by omega) ed hj⟩
theorem s_CM_make {G : pG} {w : pW} (hG : GO G) (hI : I w) (a1 : Int32) (a2 : Int32) (hJ : J w) : PM G M_CM_make 5 0 0 [.ref 0, .int a1, .int a2] w (fun r w' => (∃ v, r = some (.int v)) ∧ I w' ∧ Fr SA w w' ∧ J w') := by
  refine PM_of pn_CM_make (le_b rfl) ?_
  show PW _ _ _ _ _ _ (0, [(0, .ref 0), (1, .int a1), (2, .int a2)], [], w)
  obtain ⟨b, hb, e0⟩ := hI.cm
  obtain ⟨hb1, hb2⟩ := pl_rng hb
  obtain ⟨lc, qc, mc, pc, eb, hlc, hqc, hmc, hpc⟩ := hI.pl hb
  refine P_aload_n d_CM_make_0 rfl ?_
  refine P_getf (i := 0) d_CM_make_1 ok_CM (by decide) L_CM_12 e0 rfl ?_
  refine P_iload_n d_CM_make_4 rfl ?_
  refine P_callV (M := M_CM_make) (pc := 5) (as := [.int a1]) (b := b) d_CM_make_5 co_Plane_hasQuad ok_Plane eb L_CM_127 im_Plane_hasQuad se_Plane_hasQuad (s_Plane_hasQuad eb hlc hqc hmc hpc a1) rfl ⟨by decide, by decide⟩ ⟨by decide, by decide⟩ (by exact le_b rfl) ?_ _ rfl
  rintro _ u ⟨rfl, eu⟩
  subst u
  show PW _ _ _ _ _ _ (8, [(0, .ref 0), (1, .int a1), (2, .int a2)], [.int (bi (inN qc a1))], w)
  refine P_if_eq 22 d_CM_make_8 (by decide) (fun c2 => ?_) (fun c2 => ?_)
  · refine P_iconst (v := (-1)) d_CM_make_22 (by decide) ?_
    exact P_iret d_CM_make_23 rfl (le_b rfl) (le_b rfl) ⟨⟨_, rfl⟩, hI, Fr.up Fr.rf, J.fr hJ hI Fr.rf⟩
  · obtain ⟨a1N, ha1N, rfl⟩ := inN_of (bi_1 c2) (by omega)
    refine P_aload_n d_CM_make_11 rfl ?_
    refine P_getf (i := 0) d_CM_make_12 ok_CM (by decide) L_CM_12 e0 rfl ?_
    refine P_iload_n d_CM_make_15 rfl ?_
    refine P_callV (M := M_CM_make) (pc := 16) (as := [.int a2]) (b := b) d_CM_make_16 co_Plane_hasQuad ok_Plane eb L_CM_127 im_Plane_hasQuad se_Plane_hasQuad (s_Plane_hasQuad eb hlc hqc hmc hpc a2) rfl ⟨by decide, by decide⟩ ⟨by decide, by decide⟩ (by exact le_b rfl) ?_ _ rfl
    rintro _ u ⟨rfl, eu⟩
    subst u
    show PW _ _ _ _ _ _ (19, [(0, .ref 0), (1, .int (nI a1N)), (2, .int a2)], [.int (bi (inN qc a2))], w)
    refine P_if_ne 24 d_CM_make_19 (by decide) (fun c4 => ?_) (fun c4 => ?_)
    · obtain ⟨a2N, ha2N, rfl⟩ := inN_of (bi_1 c4) (by omega)
      refine P_aload_n d_CM_make_24 rfl ?_
      refine P_getf (i := 5) d_CM_make_25 ok_CM (by decide) L_CM_31 e0 rfl ?_
      refine P_aload_n d_CM_make_28 rfl ?_
      refine P_getf (i := 0) d_CM_make_29 ok_CM (by decide) L_CM_12 e0 rfl ?_
      refine P_getfN (i := 0) d_CM_make_32 ok_Plane (by decide) L_CM_142 eb rfl ?_
      refine P_iload_n d_CM_make_35 rfl ?_
      refine P_aald (j := a1N) (q := b + 1 + 27 + 6 * a1N) d_CM_make_36 (hI.qs hb) rfl (ix_nI (by omega)) (by omega) (pq_at (by omega)) ?_
      refine P_aload_n d_CM_make_37 rfl ?_
      refine P_getf (i := 0) d_CM_make_38 ok_CM (by decide) L_CM_12 e0 rfl ?_
      refine P_getfN (i := 0) d_CM_make_41 ok_Plane (by decide) L_CM_142 eb rfl ?_
      refine P_iload_n d_CM_make_44 rfl ?_
      refine P_aald (j := a2N) (q := b + 1 + 27 + 6 * a2N) d_CM_make_45 (hI.qs hb) rfl (ix_nI (by omega)) (by omega) (pq_at (by omega)) ?_
      refine P_iconst (v := 0) d_CM_make_46 (by decide) ?_
      refine P_aload_n d_CM_make_47 rfl ?_
      refine P_getf (i := 8) d_CM_make_48 ok_CM (by decide) L_CM_65 e0 rfl ?_
      refine P_callV (M := M_CM_make) (pc := 51) (as := [.ref (b + 1 + 27 + 6 * a1N), .ref (b + 1 + 27 + 6 * a2N), .int 0, .ref 449]) (b := 155) d_CM_make_51 co_Maker_between ok_Maker (hI.mk) L_CM_184 im_Maker_between se_Maker_between (s_Maker_between hG hI (QX_pl hb (q := a1N) (by omega)) (QX_pl hb (q := a2N) (by omega)) 0 (by decide) (by decide) kc_449 (by omega) (by omega)) rfl ⟨by decide, by decide⟩ ⟨by decide, by decide⟩ (by exact le_b rfl) ?_ _ rfl
      rintro _ w5 ⟨rfl, hI5, hG5⟩
      have hF5 : Fr SC w w5 := Fr.tr Fr.rf hG5
      show PW _ _ _ _ _ _ (54, [(0, .ref 0), (1, .int (nI a1N)), (2, .int (nI a2N))], [], w5)
      refine P_aload_n d_CM_make_54 rfl ?_
      refine P_aload_n d_CM_make_55 rfl ?_
      refine P_getf (i := 8) d_CM_make_56 ok_CM (by decide) L_CM_65 ((hF5.2 _ (SC_f (by omega))).trans e0) rfl ?_
      refine P_callV (M := M_CM_make) (pc := 59) (as := [.ref 449]) (b := 0) d_CM_make_59 co_CM_keepMap ok_CM ((hF5.2 _ (SC_f (by omega))).trans e0) L_CM_188 im_CM_keepMap se_CM_keepMap (s_CM_keepMap hG hI5 (J.fr hJ hI hF5) (by decide) kc_449) rfl ⟨by decide, by decide⟩ ⟨by decide, by decide⟩ (by exact le_b rfl) ?_ _ rfl
      rintro _ w6 ⟨⟨v6, rfl⟩, hI6, hG6, hJ6⟩
      show PW _ _ _ _ _ _ (62, [(0, .ref 0), (1, .int (nI a1N)), (2, .int (nI a2N))], [.int v6], w6)
      exact P_iret d_CM_make_62 rfl (le_b rfl) (le_b rfl) ⟨⟨_, rfl⟩, hI6, Fr.tr (Fr.up hF5) hG6, hJ6⟩
    · refine P_iconst (v := (-1)) d_CM_make_22 (by decide) ?_
      exact P_iret d_CM_make_23 rfl (le_b rfl) (le_b rfl) ⟨⟨_, rfl⟩, hI, Fr.up Fr.rf, J.fr hJ hI Fr.rf⟩
theorem s_CM_square {G : pG} {w : pW} (hG : GO G) (hI : I w) (a1 : Int32) (a2 : Int32) (hJ : J w) : PM G M_CM_square 6 0 0 [.ref 0, .int a1, .int a2] w (fun r w' => (∃ v, r = some (.int v)) ∧ I w' ∧ Fr SA w w' ∧ J w') := by
  refine PM_of pn_CM_square (le_b rfl) ?_
  show PW _ _ _ _ _ _ (0, [(0, .ref 0), (1, .int a1), (2, .int a2)], [], w)
  obtain ⟨b, hb, e0⟩ := hI.cm
  obtain ⟨hb1, hb2⟩ := pl_rng hb
  obtain ⟨lc, qc, mc, pc, eb, hlc, hqc, hmc, hpc⟩ := hI.pl hb
  refine P_aload_n d_CM_square_0 rfl ?_
  refine P_getf (i := 0) d_CM_square_1 ok_CM (by decide) L_CM_12 e0 rfl ?_
  refine P_iload_n d_CM_square_4 rfl ?_
  refine P_callV (M := M_CM_square) (pc := 5) (as := [.int a1]) (b := b) d_CM_square_5 co_Plane_hasQuad ok_Plane eb L_CM_127 im_Plane_hasQuad se_Plane_hasQuad (s_Plane_hasQuad eb hlc hqc hmc hpc a1) rfl ⟨by decide, by decide⟩ ⟨by decide, by decide⟩ (by exact le_b rfl) ?_ _ rfl
  rintro _ u ⟨rfl, eu⟩
  subst u
  show PW _ _ _ _ _ _ (8, [(0, .ref 0), (1, .int a1), (2, .int a2)], [.int (bi (inN qc a1))], w)
  refine P_if_eq 22 d_CM_square_8 (by decide) (fun c2 => ?_) (fun c2 => ?_)
  · refine P_iconst (v := (-1)) d_CM_square_22 (by decide) ?_
    exact P_iret d_CM_square_23 rfl (le_b rfl) (le_b rfl) ⟨⟨_, rfl⟩, hI, Fr.up Fr.rf, J.fr hJ hI Fr.rf⟩
  · obtain ⟨a1N, ha1N, rfl⟩ := inN_of (bi_1 c2) (by omega)
    refine P_iload_n d_CM_square_11 rfl ?_
    refine P_iconst (v := 1) d_CM_square_12 (by decide) ?_
    refine P_icmp_lt 22 d_CM_square_13 (by decide) (fun c3 => ?_) (fun c3 => ?_)
    · refine P_iconst (v := (-1)) d_CM_square_22 (by decide) ?_
      exact P_iret d_CM_square_23 rfl (le_b rfl) (le_b rfl) ⟨⟨_, rfl⟩, hI, Fr.up Fr.rf, J.fr hJ hI Fr.rf⟩
    · refine P_iload_n d_CM_square_16 rfl ?_
      refine P_bipush (v := 20) d_CM_square_17 (by decide) ?_
      refine P_icmp_le 24 d_CM_square_19 (by decide) (fun c4 => ?_) (fun c4 => ?_)
      · obtain ⟨a2N, ha2N, rfl⟩ := nI_of_le (n := 20) (lt_z (n := 1) c3 rfl) c4 rfl
        refine P_aload_n d_CM_square_24 rfl ?_
        refine P_getf (i := 5) d_CM_square_25 ok_CM (by decide) L_CM_31 e0 rfl ?_
        refine P_aload_n d_CM_square_28 rfl ?_
        refine P_getf (i := 0) d_CM_square_29 ok_CM (by decide) L_CM_12 e0 rfl ?_
        refine P_getfN (i := 0) d_CM_square_32 ok_Plane (by decide) L_CM_142 eb rfl ?_
        refine P_iload_n d_CM_square_35 rfl ?_
        refine P_aald (j := a1N) (q := b + 1 + 27 + 6 * a1N) d_CM_square_36 (hI.qs hb) rfl (ix_nI (by omega)) (by omega) (pq_at (by omega)) ?_
        refine P_iload_n d_CM_square_37 rfl ?_
        refine P_aload_n d_CM_square_38 rfl ?_
        refine P_getf (i := 8) d_CM_square_39 ok_CM (by decide) L_CM_65 e0 rfl ?_
        refine P_callV (M := M_CM_square) (pc := 42) (as := [.ref (b + 1 + 27 + 6 * a1N), .int (nI a2N), .ref 449]) (b := 155) d_CM_square_42 co_Maker_toSquare ok_Maker (hI.mk) L_CM_192 im_Maker_toSquare se_Maker_toSquare (s_Maker_toSquare hG hI (QX_pl hb (q := a1N) (by omega)) (nI a2N) (by decide) kc_449 (by omega) (by omega)) rfl ⟨by decide, by decide⟩ ⟨by decide, by decide⟩ (by exact le_b rfl) ?_ _ rfl
        rintro _ w5 ⟨rfl, hI5, hG5⟩
        have hF5 : Fr SC w w5 := Fr.tr Fr.rf hG5
        show PW _ _ _ _ _ _ (45, [(0, .ref 0), (1, .int (nI a1N)), (2, .int (nI a2N))], [], w5)
        refine P_aload_n d_CM_square_45 rfl ?_
        refine P_aload_n d_CM_square_46 rfl ?_
        refine P_getf (i := 8) d_CM_square_47 ok_CM (by decide) L_CM_65 ((hF5.2 _ (SC_f (by omega))).trans e0) rfl ?_
        refine P_callV (M := M_CM_square) (pc := 50) (as := [.ref 449]) (b := 0) d_CM_square_50 co_CM_keepMap ok_CM ((hF5.2 _ (SC_f (by omega))).trans e0) L_CM_188 im_CM_keepMap se_CM_keepMap (s_CM_keepMap hG hI5 (J.fr hJ hI hF5) (by decide) kc_449) rfl ⟨by decide, by decide⟩ ⟨by decide, by decide⟩ (by exact le_b rfl) ?_ _ rfl
        rintro _ w6 ⟨⟨v6, rfl⟩, hI6, hG6, hJ6⟩
        show PW _ _ _ _ _ _ (53, [(0, .ref 0), (1, .int (nI a1N)), (2, .int (nI a2N))], [.int v6], w6)
        exact P_iret d_CM_square_53 rfl (le_b rfl) (le_b rfl) ⟨⟨_, rfl⟩, hI6, Fr.tr (Fr.up hF5) hG6, hJ6⟩
      · refine P_iconst (v := (-1)) d_CM_square_22 (by decide) ?_
        exact P_iret d_CM_square_23 rfl (le_b rfl) (le_b rfl) ⟨⟨_, rfl⟩, hI, Fr.up Fr.rf, J.fr hJ hI Fr.rf⟩
theorem s_CM_product {G : pG} {w : pW} (hG : GO G) (hI : I w) (a1 : Int32) (a2 : Int32) (hJ : J w) : PM G M_CM_product 4 0 0 [.ref 0, .int a1, .int a2] w (fun r w' => (∃ v, r = some (.int v)) ∧ I w' ∧ Fr SA w w' ∧ J w') := by
  refine PM_of pn_CM_product (le_b rfl) ?_
  show PW _ _ _ _ _ _ (0, [(0, .ref 0), (1, .int a1), (2, .int a2)], [], w)
  obtain ⟨b, hb, e0⟩ := hI.cm
  obtain ⟨hb1, hb2⟩ := pl_rng hb
  obtain ⟨lc, qc, mc, pc, eb, hlc, hqc, hmc, hpc⟩ := hI.pl hb
  refine P_aload_n d_CM_product_0 rfl ?_
  refine P_getf (i := 0) d_CM_product_1 ok_CM (by decide) L_CM_12 e0 rfl ?_
  refine P_iload_n d_CM_product_4 rfl ?_
  refine P_callV (M := M_CM_product) (pc := 5) (as := [.int a1]) (b := b) d_CM_product_5 co_Plane_hasMap ok_Plane eb L_CM_151 im_Plane_hasMap se_Plane_hasMap (s_Plane_hasMap eb hlc hqc hmc hpc a1) rfl ⟨by decide, by decide⟩ ⟨by decide, by decide⟩ (by exact le_b rfl) ?_ _ rfl
  rintro _ u ⟨rfl, eu⟩
  subst u
  show PW _ _ _ _ _ _ (8, [(0, .ref 0), (1, .int a1), (2, .int a2)], [.int (bi (inN mc a1))], w)
  refine P_if_eq 22 d_CM_product_8 (by decide) (fun c2 => ?_) (fun c2 => ?_)
  · refine P_iconst (v := (-1)) d_CM_product_22 (by decide) ?_
    exact P_iret d_CM_product_23 rfl (le_b rfl) (le_b rfl) ⟨⟨_, rfl⟩, hI, Fr.up Fr.rf, J.fr hJ hI Fr.rf⟩
  · obtain ⟨a1N, ha1N, rfl⟩ := inN_of (bi_1 c2) (by omega)
    refine P_aload_n d_CM_product_11 rfl ?_
    refine P_getf (i := 0) d_CM_product_12 ok_CM (by decide) L_CM_12 e0 rfl ?_
    refine P_iload_n d_CM_product_15 rfl ?_
    refine P_callV (M := M_CM_product) (pc := 16) (as := [.int a2]) (b := b) d_CM_product_16 co_Plane_hasMap ok_Plane eb L_CM_151 im_Plane_hasMap se_Plane_hasMap (s_Plane_hasMap eb hlc hqc hmc hpc a2) rfl ⟨by decide, by decide⟩ ⟨by decide, by decide⟩ (by exact le_b rfl) ?_ _ rfl
    rintro _ u ⟨rfl, eu⟩
    subst u
    show PW _ _ _ _ _ _ (19, [(0, .ref 0), (1, .int (nI a1N)), (2, .int a2)], [.int (bi (inN mc a2))], w)
    refine P_if_ne 24 d_CM_product_19 (by decide) (fun c4 => ?_) (fun c4 => ?_)
    · obtain ⟨a2N, ha2N, rfl⟩ := inN_of (bi_1 c4) (by omega)
      refine P_aload_n d_CM_product_24 rfl ?_
      refine P_getf (i := 0) d_CM_product_25 ok_CM (by decide) L_CM_12 e0 rfl ?_
      refine P_getfN (i := 1) d_CM_product_28 ok_Plane (by decide) L_CM_157 eb rfl ?_
      refine P_iload_n d_CM_product_31 rfl ?_
      refine P_aald (j := a1N) (q := b + 2 + 1 + a1N) d_CM_product_32 (hI.ms hb) rfl (ix_nI (by omega)) (by omega) (rows_at (by omega)) ?_
      refine P_aload_n d_CM_product_33 rfl ?_
      refine P_getf (i := 0) d_CM_product_34 ok_CM (by decide) L_CM_12 e0 rfl ?_
      refine P_getfN (i := 1) d_CM_product_37 ok_Plane (by decide) L_CM_157 eb rfl ?_
      refine P_iload_n d_CM_product_40 rfl ?_
      refine P_aald (j := a2N) (q := b + 2 + 1 + a2N) d_CM_product_41 (hI.ms hb) rfl (ix_nI (by omega)) (by omega) (rows_at (by omega)) ?_
      refine P_aload_n d_CM_product_42 rfl ?_
      refine P_getf (i := 8) d_CM_product_43 ok_CM (by decide) L_CM_65 e0 rfl ?_
      obtain ⟨f5, f5e⟩ := hI.row (r := b + 2 + 1 + a1N) (by omega) (Kc_m hb (by omega))
      obtain ⟨f6, f6e⟩ := hI.row (r := b + 2 + 1 + a2N) (by omega) (Kc_m hb (by omega))
      obtain ⟨f7, f7e⟩ := hI.row (r := 449) (by decide) kc_449
      refine P_callS (M := M_CM_product) (pc := 46) (as := [.ref (b + 2 + 1 + a1N), .ref (b + 2 + 1 + a2N), .ref 449]) d_CM_product_46 co_Maps_multiply L_CM_196 sm_Maps_multiply (s_Maps_multiply f5e f6e f7e (by decide) (by omega) (by omega)) rfl ⟨by decide, by decide⟩ ⟨by decide, by decide⟩ (by exact le_b rfl) ?_ _ rfl
      rintro _ w8 ⟨rfl, g8, e8⟩
      have s8 := w_s e8
      have hI8 : I w8 := hI.setL e8 kc_449
      have hF8 : Fr SC w w8 := Fr.set Fr.rf e8 (SC_t (by omega))
      show PW _ _ _ _ _ _ (49, [(0, .ref 0), (1, .int (nI a1N)), (2, .int (nI a2N))], [], w8)
      refine P_aload_n d_CM_product_49 rfl ?_
      refine P_aload_n d_CM_product_50 rfl ?_
      refine P_getf (i := 8) d_CM_product_51 ok_CM (by decide) L_CM_65 ((hF8.2 _ (SC_f (by omega))).trans e0) rfl ?_
      refine P_callV (M := M_CM_product) (pc := 54) (as := [.ref 449]) (b := 0) d_CM_product_54 co_CM_keepMap ok_CM ((hF8.2 _ (SC_f (by omega))).trans e0) L_CM_188 im_CM_keepMap se_CM_keepMap (s_CM_keepMap hG hI8 (J.fr hJ hI hF8) (by decide) kc_449) rfl ⟨by decide, by decide⟩ ⟨by decide, by decide⟩ (by exact le_b rfl) ?_ _ rfl
      rintro _ w9 ⟨⟨v9, rfl⟩, hI9, hG9, hJ9⟩
      show PW _ _ _ _ _ _ (57, [(0, .ref 0), (1, .int (nI a1N)), (2, .int (nI a2N))], [.int v9], w9)
      exact P_iret d_CM_product_57 rfl (le_b rfl) (le_b rfl) ⟨⟨_, rfl⟩, hI9, Fr.tr (Fr.up hF8) hG9, hJ9⟩
    · refine P_iconst (v := (-1)) d_CM_product_22 (by decide) ?_
      exact P_iret d_CM_product_23 rfl (le_b rfl) (le_b rfl) ⟨⟨_, rfl⟩, hI, Fr.up Fr.rf, J.fr hJ hI Fr.rf⟩
theorem s_CM_inverse {G : pG} {w : pW} (hG : GO G) (hI : I w) (a1 : Int32) (hJ : J w) : PM G M_CM_inverse 4 0 0 [.ref 0, .int a1] w (fun r w' => (∃ v, r = some (.int v)) ∧ I w' ∧ Fr SA w w' ∧ J w') := by
  refine PM_of pn_CM_inverse (le_b rfl) ?_
  show PW _ _ _ _ _ _ (0, [(0, .ref 0), (1, .int a1)], [], w)
  obtain ⟨b, hb, e0⟩ := hI.cm
  obtain ⟨hb1, hb2⟩ := pl_rng hb
  obtain ⟨lc, qc, mc, pc, eb, hlc, hqc, hmc, hpc⟩ := hI.pl hb
  refine P_aload_n d_CM_inverse_0 rfl ?_
  refine P_getf (i := 0) d_CM_inverse_1 ok_CM (by decide) L_CM_12 e0 rfl ?_
  refine P_iload_n d_CM_inverse_4 rfl ?_
  refine P_callV (M := M_CM_inverse) (pc := 5) (as := [.int a1]) (b := b) d_CM_inverse_5 co_Plane_hasMap ok_Plane eb L_CM_151 im_Plane_hasMap se_Plane_hasMap (s_Plane_hasMap eb hlc hqc hmc hpc a1) rfl ⟨by decide, by decide⟩ ⟨by decide, by decide⟩ (by exact le_b rfl) ?_ _ rfl
  rintro _ u ⟨rfl, eu⟩
  subst u
  show PW _ _ _ _ _ _ (8, [(0, .ref 0), (1, .int a1)], [.int (bi (inN mc a1))], w)
  refine P_if_ne 13 d_CM_inverse_8 (by decide) (fun c2 => ?_) (fun c2 => ?_)
  · obtain ⟨a1N, ha1N, rfl⟩ := inN_of (bi_1 c2) (by omega)
    refine P_aload_n d_CM_inverse_13 rfl ?_
    refine P_getf (i := 0) d_CM_inverse_14 ok_CM (by decide) L_CM_12 e0 rfl ?_
    refine P_getfN (i := 1) d_CM_inverse_17 ok_Plane (by decide) L_CM_157 eb rfl ?_
    refine P_iload_n d_CM_inverse_20 rfl ?_
    refine P_aald (j := a1N) (q := b + 2 + 1 + a1N) d_CM_inverse_21 (hI.ms hb) rfl (ix_nI (by omega)) (by omega) (rows_at (by omega)) ?_
    refine P_aload_n d_CM_inverse_22 rfl ?_
    refine P_getf (i := 8) d_CM_inverse_23 ok_CM (by decide) L_CM_65 e0 rfl ?_
    obtain ⟨f3, f3e⟩ := hI.row (r := b + 2 + 1 + a1N) (by omega) (Kc_m hb (by omega))
    obtain ⟨f4, f4e⟩ := hI.row (r := 449) (by decide) kc_449
    refine P_callS (M := M_CM_inverse) (pc := 26) (as := [.ref (b + 2 + 1 + a1N), .ref 449]) d_CM_inverse_26 co_Maps_invert L_CM_202 sm_Maps_invert (s_Maps_invert f3e f4e (by decide) (by omega)) rfl ⟨by decide, by decide⟩ ⟨by decide, by decide⟩ (by exact le_b rfl) ?_ _ rfl
    rintro _ w5 ⟨rfl, g5, e5⟩
    have s5 := w_s e5
    have hI5 : I w5 := hI.setL e5 kc_449
    have hF5 : Fr SC w w5 := Fr.set Fr.rf e5 (SC_t (by omega))
    show PW _ _ _ _ _ _ (29, [(0, .ref 0), (1, .int (nI a1N))], [], w5)
    refine P_aload_n d_CM_inverse_29 rfl ?_
    refine P_aload_n d_CM_inverse_30 rfl ?_
    refine P_getf (i := 8) d_CM_inverse_31 ok_CM (by decide) L_CM_65 ((hF5.2 _ (SC_f (by omega))).trans e0) rfl ?_
    refine P_callV (M := M_CM_inverse) (pc := 34) (as := [.ref 449]) (b := 0) d_CM_inverse_34 co_CM_keepMap ok_CM ((hF5.2 _ (SC_f (by omega))).trans e0) L_CM_188 im_CM_keepMap se_CM_keepMap (s_CM_keepMap hG hI5 (J.fr hJ hI hF5) (by decide) kc_449) rfl ⟨by decide, by decide⟩ ⟨by decide, by decide⟩ (by exact le_b rfl) ?_ _ rfl
    rintro _ w6 ⟨⟨v6, rfl⟩, hI6, hG6, hJ6⟩
    show PW _ _ _ _ _ _ (37, [(0, .ref 0), (1, .int (nI a1N))], [.int v6], w6)
    exact P_iret d_CM_inverse_37 rfl (le_b rfl) (le_b rfl) ⟨⟨_, rfl⟩, hI6, Fr.tr (Fr.up hF5) hG6, hJ6⟩
  · refine P_iconst (v := (-1)) d_CM_inverse_11 (by decide) ?_
    exact P_iret d_CM_inverse_12 rfl (le_b rfl) (le_b rfl) ⟨⟨_, rfl⟩, hI, Fr.up Fr.rf, J.fr hJ hI Fr.rf⟩
theorem s_CM_power {G : pG} {w : pW} (hG : GO G) (hI : I w) (a1 : Int32) (a2 : Int32) (hJ : J w) : PM G M_CM_power 5 0 0 [.ref 0, .int a1, .int a2] w (fun r w' => (∃ v, r = some (.int v)) ∧ I w' ∧ Fr SA w w' ∧ J w') := by
  refine PM_of pn_CM_power (le_b rfl) ?_
  show PW _ _ _ _ _ _ (0, [(0, .ref 0), (1, .int a1), (2, .int a2)], [], w)
  obtain ⟨b, hb, e0⟩ := hI.cm
  obtain ⟨hb1, hb2⟩ := pl_rng hb
  obtain ⟨lc, qc, mc, pc, eb, hlc, hqc, hmc, hpc⟩ := hI.pl hb
  refine P_aload_n d_CM_power_0 rfl ?_
  refine P_getf (i := 0) d_CM_power_1 ok_CM (by decide) L_CM_12 e0 rfl ?_
  refine P_iload_n d_CM_power_4 rfl ?_
  refine P_callV (M := M_CM_power) (pc := 5) (as := [.int a1]) (b := b) d_CM_power_5 co_Plane_hasMap ok_Plane eb L_CM_151 im_Plane_hasMap se_Plane_hasMap (s_Plane_hasMap eb hlc hqc hmc hpc a1) rfl ⟨by decide, by decide⟩ ⟨by decide, by decide⟩ (by exact le_b rfl) ?_ _ rfl
  rintro _ u ⟨rfl, eu⟩
  subst u
  show PW _ _ _ _ _ _ (8, [(0, .ref 0), (1, .int a1), (2, .int a2)], [.int (bi (inN mc a1))], w)
  refine P_if_eq 21 d_CM_power_8 (by decide) (fun c2 => ?_) (fun c2 => ?_)
  · refine P_iconst (v := (-1)) d_CM_power_21 (by decide) ?_
    exact P_iret d_CM_power_22 rfl (le_b rfl) (le_b rfl) ⟨⟨_, rfl⟩, hI, Fr.up Fr.rf, J.fr hJ hI Fr.rf⟩
  · obtain ⟨a1N, ha1N, rfl⟩ := inN_of (bi_1 c2) (by omega)
    refine P_iload_n d_CM_power_11 rfl ?_
    refine P_if_lt 21 d_CM_power_12 (by decide) (fun c3 => ?_) (fun c3 => ?_)
    · refine P_iconst (v := (-1)) d_CM_power_21 (by decide) ?_
      exact P_iret d_CM_power_22 rfl (le_b rfl) (le_b rfl) ⟨⟨_, rfl⟩, hI, Fr.up Fr.rf, J.fr hJ hI Fr.rf⟩
    · refine P_iload_n d_CM_power_15 rfl ?_
      refine P_bipush (v := 12) d_CM_power_16 (by decide) ?_
      refine P_icmp_le 23 d_CM_power_18 (by decide) (fun c4 => ?_) (fun c4 => ?_)
      · obtain ⟨a2N, ha2N, rfl⟩ := nI_of_le (n := 12) c3 c4 rfl
        refine P_gets ("CornerMaps", "NOTHING", "[J", 3) (by decide) d_CM_power_23 L_CM_206 ?_
        show PW _ _ _ _ _ _ (26, [(0, .ref 0), (1, .int (nI a1N)), (2, .int (nI a2N))], [.ref 1000003], w)
        refine PW.ext (fun hx => ?_)
        have o5 : w.2 1000003 = .inl (1, 9, .inr (.inl nthF)) := (hx 3).trans (GO_3 hG)
        refine P_aload_n d_CM_power_26 rfl ?_
        refine P_getf (i := 10) d_CM_power_27 ok_CM (by decide) L_CM_72 e0 rfl ?_
        obtain ⟨f6, f6e⟩ := hI.row (r := 451) (by decide) kc_451
        refine P_callS (M := M_CM_power) (pc := 30) (as := [.ref 1000003, .ref 451]) d_CM_power_30 co_Rows_copy L_CM_209 sm_Rows_copy (v_Rows_copy o5 f6e (by decide) (by decide)) rfl ⟨by decide, by decide⟩ ⟨by decide, by decide⟩ (by exact le_b rfl) ?_ _ rfl
        rintro _ w7 ⟨rfl, e7⟩
        have s7 := w_s e7
        generalize va_cpy _ _ _ _ _ = g8 at e7 s7
        have hI7 : I w7 := hI.setL e7 kc_451
        have hF7 : Fr SC w w7 := Fr.set Fr.rf e7 (SC_t (by omega))
        show PW _ _ _ _ _ _ (33, [(0, .ref 0), (1, .int (nI a1N)), (2, .int (nI a2N))], [], w7)
        refine P_iconst (v := 0) d_CM_power_33 (by decide) ?_
        refine P_istore_n d_CM_power_34 (by decide) rfl ?_
        refine PW_ind (σ := pW) (a2N) (fun jj ss => I (ss) ∧ Fr SC w (ss)) (fun jj ss => (35, [(0, .ref 0), (1, .int (nI a1N)), (2, .int (nI a2N)), (3, .int (nI jj))], [], ss)) ?_ ?_ 0 (w7) (by omega) ⟨hI7, hF7⟩
        · rintro uj9 ⟨hIj9, hFj9⟩
          show PW _ _ _ _ _ _ (35, [(0, .ref 0), (1, .int (nI a1N)), (2, .int (nI a2N)), (3, .int (nI a2N))], [], uj9)
          refine P_iload_n d_CM_power_35 rfl ?_
          refine P_iload_n d_CM_power_36 rfl ?_
          refine P_icmp_ge 65 d_CM_power_37 (by decide) (fun _ => ?_) (fun h => absurd (Int32.le_refl _) h)
          refine P_aload_n d_CM_power_65 rfl ?_
          refine P_aload_n d_CM_power_66 rfl ?_
          refine P_getf (i := 10) d_CM_power_67 ok_CM (by decide) L_CM_72 ((hFj9.2 _ (SC_f (by omega))).trans e0) rfl ?_
          refine P_callV (M := M_CM_power) (pc := 70) (as := [.ref 451]) (b := 0) d_CM_power_70 co_CM_keepMap ok_CM ((hFj9.2 _ (SC_f (by omega))).trans e0) L_CM_188 im_CM_keepMap se_CM_keepMap (s_CM_keepMap hG hIj9 (J.fr hJ hI hFj9) (by decide) kc_451) rfl ⟨by decide, by decide⟩ ⟨by decide, by decide⟩ (by exact le_b rfl) ?_ _ rfl
          rintro _ w10 ⟨⟨v10, rfl⟩, hI10, hG10, hJ10⟩
          show PW _ _ _ _ _ _ (73, [(0, .ref 0), (1, .int (nI a1N)), (2, .int (nI a2N)), (3, .int (nI a2N))], [.int v10], w10)
          exact P_iret d_CM_power_73 rfl (le_b rfl) (le_b rfl) ⟨⟨_, rfl⟩, hI10, Fr.tr (Fr.up hFj9) hG10, hJ10⟩
        · rintro j9 uj9 hj9 ⟨hIj9, hFj9⟩ kkj9
          show PW _ _ _ _ _ _ (35, [(0, .ref 0), (1, .int (nI a1N)), (2, .int (nI a2N)), (3, .int (nI j9))], [], uj9)
          refine P_iload_n d_CM_power_35 rfl ?_
          refine P_iload_n d_CM_power_36 rfl ?_
          refine P_icmp_ge 65 d_CM_power_37 (by decide) (fun h => absurd h (nI_geF (a := j9) (b := a2N) (by omega) (by omega))) (fun _ => ?_)
          refine P_aload_n d_CM_power_40 rfl ?_
          refine P_aload_n d_CM_power_41 rfl ?_
          refine P_getf (i := 0) d_CM_power_42 ok_CM (by decide) L_CM_12 ((hFj9.2 _ (SC_f (by omega))).trans e0) rfl ?_
          refine P_getfN (i := 1) d_CM_power_45 ok_Plane (by decide) L_CM_157 ((hFj9.2 _ (SC_f (by omega))).trans eb) rfl ?_
          refine P_iload_n d_CM_power_48 rfl ?_
          refine P_aald (j := a1N) (q := b + 2 + 1 + a1N) d_CM_power_49 (hIj9.ms hb) rfl (ix_nI (by omega)) (by omega) (rows_at (by omega)) ?_
          refine P_callV (M := M_CM_power) (pc := 50) (as := [.ref (b + 2 + 1 + a1N)]) (b := 0) d_CM_power_50 co_CM_rise ok_CM ((hFj9.2 _ (SC_f (by omega))).trans e0) L_CM_214 im_CM_rise se_CM_rise (s_CM_rise hG hIj9 (by omega) (Kc_m hb (by omega)) (by omega)) rfl ⟨by decide, by decide⟩ ⟨by decide, by decide⟩ (by exact le_b rfl) ?_ _ rfl
          rintro _ w11 ⟨⟨v11, rfl⟩, hI11, hG11⟩
          have hF11 : Fr SC w w11 := Fr.tr hFj9 hG11
          show PW _ _ _ _ _ _ (53, [(0, .ref 0), (1, .int (nI a1N)), (2, .int (nI a2N)), (3, .int (nI j9))], [.int (bi v11)], w11)
          refine P_if_ne 59 d_CM_power_53 (by decide) (fun c12 => ?_) (fun c12 => ?_)
          · refine P_iinc (v := nI (j9 + 1)) d_CM_power_59 (by decide) rfl (nI_add j9 1) rfl ?_
            refine P_goto 35 d_CM_power_62 (by decide) ?_
            exact kkj9 (w11) ⟨hI11, hF11⟩
          · refine P_bipush (v := (-2)) d_CM_power_56 (by decide) ?_
            exact P_iret d_CM_power_58 rfl (le_b rfl) (le_b rfl) ⟨⟨_, rfl⟩, hI11, Fr.up hF11, J.fr hJ hI hF11⟩
      · refine P_iconst (v := (-1)) d_CM_power_21 (by decide) ?_
        exact P_iret d_CM_power_22 rfl (le_b rfl) (le_b rfl) ⟨⟨_, rfl⟩, hI, Fr.up Fr.rf, J.fr hJ hI Fr.rf⟩
theorem s_CM_symmetry {G : pG} {w : pW} (hG : GO G) (hI : I w) (a1 : Int32) (a2 : Int32) (hJ : J w) : PM G M_CM_symmetry 5 0 0 [.ref 0, .int a1, .int a2] w (fun r w' => (∃ v, r = some (.int v)) ∧ I w' ∧ Fr SA w w' ∧ J w') := by
  refine PM_of pn_CM_symmetry (le_b rfl) ?_
  show PW _ _ _ _ _ _ (0, [(0, .ref 0), (1, .int a1), (2, .int a2)], [], w)
  obtain ⟨b, hb, e0⟩ := hI.cm
  obtain ⟨hb1, hb2⟩ := pl_rng hb
  obtain ⟨lc, qc, mc, pc, eb, hlc, hqc, hmc, hpc⟩ := hI.pl hb
  refine P_aload_n d_CM_symmetry_0 rfl ?_
  refine P_getf (i := 0) d_CM_symmetry_1 ok_CM (by decide) L_CM_12 e0 rfl ?_
  refine P_iload_n d_CM_symmetry_4 rfl ?_
  refine P_callV (M := M_CM_symmetry) (pc := 5) (as := [.int a1]) (b := b) d_CM_symmetry_5 co_Plane_hasQuad ok_Plane eb L_CM_127 im_Plane_hasQuad se_Plane_hasQuad (s_Plane_hasQuad eb hlc hqc hmc hpc a1) rfl ⟨by decide, by decide⟩ ⟨by decide, by decide⟩ (by exact le_b rfl) ?_ _ rfl
  rintro _ u ⟨rfl, eu⟩
  subst u
  show PW _ _ _ _ _ _ (8, [(0, .ref 0), (1, .int a1), (2, .int a2)], [.int (bi (inN qc a1))], w)
  refine P_if_eq 21 d_CM_symmetry_8 (by decide) (fun c2 => ?_) (fun c2 => ?_)
  · refine P_iconst (v := (-1)) d_CM_symmetry_21 (by decide) ?_
    exact P_iret d_CM_symmetry_22 rfl (le_b rfl) (le_b rfl) ⟨⟨_, rfl⟩, hI, Fr.up Fr.rf, J.fr hJ hI Fr.rf⟩
  · obtain ⟨a1N, ha1N, rfl⟩ := inN_of (bi_1 c2) (by omega)
    refine P_iload_n d_CM_symmetry_11 rfl ?_
    refine P_if_lt 21 d_CM_symmetry_12 (by decide) (fun c3 => ?_) (fun c3 => ?_)
    · refine P_iconst (v := (-1)) d_CM_symmetry_21 (by decide) ?_
      exact P_iret d_CM_symmetry_22 rfl (le_b rfl) (le_b rfl) ⟨⟨_, rfl⟩, hI, Fr.up Fr.rf, J.fr hJ hI Fr.rf⟩
    · refine P_iload_n d_CM_symmetry_15 rfl ?_
      refine P_bipush (v := 24) d_CM_symmetry_16 (by decide) ?_
      refine P_icmp_lt 23 d_CM_symmetry_18 (by decide) (fun c4 => ?_) (fun c4 => ?_)
      · obtain ⟨a2N, ha2N, rfl⟩ := nI_of_lt (n := 24) c3 c4 rfl
        refine P_aload_n d_CM_symmetry_23 rfl ?_
        refine P_getf (i := 5) d_CM_symmetry_24 ok_CM (by decide) L_CM_31 e0 rfl ?_
        refine P_aload_n d_CM_symmetry_27 rfl ?_
        refine P_getf (i := 0) d_CM_symmetry_28 ok_CM (by decide) L_CM_12 e0 rfl ?_
        refine P_getfN (i := 0) d_CM_symmetry_31 ok_Plane (by decide) L_CM_142 eb rfl ?_
        refine P_iload_n d_CM_symmetry_34 rfl ?_
        refine P_aald (j := a1N) (q := b + 1 + 27 + 6 * a1N) d_CM_symmetry_35 (hI.qs hb) rfl (ix_nI (by omega)) (by omega) (pq_at (by omega)) ?_
        refine P_aload_n d_CM_symmetry_36 rfl ?_
        refine P_getf (i := 0) d_CM_symmetry_37 ok_CM (by decide) L_CM_12 e0 rfl ?_
        refine P_getfN (i := 0) d_CM_symmetry_40 ok_Plane (by decide) L_CM_142 eb rfl ?_
        refine P_iload_n d_CM_symmetry_43 rfl ?_
        refine P_aald (j := a1N) (q := b + 1 + 27 + 6 * a1N) d_CM_symmetry_44 (hI.qs hb) rfl (ix_nI (by omega)) (by omega) (pq_at (by omega)) ?_
        refine P_iload_n d_CM_symmetry_45 rfl ?_
        refine P_aload_n d_CM_symmetry_46 rfl ?_
        refine P_getf (i := 8) d_CM_symmetry_47 ok_CM (by decide) L_CM_65 e0 rfl ?_
        refine P_callV (M := M_CM_symmetry) (pc := 50) (as := [.ref (b + 1 + 27 + 6 * a1N), .ref (b + 1 + 27 + 6 * a1N), .int (nI a2N), .ref 449]) (b := 155) d_CM_symmetry_50 co_Maker_between ok_Maker (hI.mk) L_CM_184 im_Maker_between se_Maker_between (s_Maker_between hG hI (QX_pl hb (q := a1N) (by omega)) (QX_pl hb (q := a1N) (by omega)) a2N (by omega) (by decide) kc_449 (by omega) (by omega)) rfl ⟨by decide, by decide⟩ ⟨by decide, by decide⟩ (by exact le_b rfl) ?_ _ rfl
        rintro _ w5 ⟨rfl, hI5, hG5⟩
        have hF5 : Fr SC w w5 := Fr.tr Fr.rf hG5
        show PW _ _ _ _ _ _ (53, [(0, .ref 0), (1, .int (nI a1N)), (2, .int (nI a2N))], [], w5)
        refine P_aload_n d_CM_symmetry_53 rfl ?_
        refine P_aload_n d_CM_symmetry_54 rfl ?_
        refine P_getf (i := 8) d_CM_symmetry_55 ok_CM (by decide) L_CM_65 ((hF5.2 _ (SC_f (by omega))).trans e0) rfl ?_
        refine P_callV (M := M_CM_symmetry) (pc := 58) (as := [.ref 449]) (b := 0) d_CM_symmetry_58 co_CM_keepMap ok_CM ((hF5.2 _ (SC_f (by omega))).trans e0) L_CM_188 im_CM_keepMap se_CM_keepMap (s_CM_keepMap hG hI5 (J.fr hJ hI hF5) (by decide) kc_449) rfl ⟨by decide, by decide⟩ ⟨by decide, by decide⟩ (by exact le_b rfl) ?_ _ rfl
        rintro _ w6 ⟨⟨v6, rfl⟩, hI6, hG6, hJ6⟩
        show PW _ _ _ _ _ _ (61, [(0, .ref 0), (1, .int (nI a1N)), (2, .int (nI a2N))], [.int v6], w6)
        exact P_iret d_CM_symmetry_61 rfl (le_b rfl) (le_b rfl) ⟨⟨_, rfl⟩, hI6, Fr.tr (Fr.up hF5) hG6, hJ6⟩
      · refine P_iconst (v := (-1)) d_CM_symmetry_21 (by decide) ?_
        exact P_iret d_CM_symmetry_22 rfl (le_b rfl) (le_b rfl) ⟨⟨_, rfl⟩, hI, Fr.up Fr.rf, J.fr hJ hI Fr.rf⟩
theorem s_CM_drop {G : pG} {w : pW} (hG : GO G) (hI : I w) (hJ : J w) (a1 : Int32) : PM G M_CM_drop 3 0 0 [.ref 0, .int a1] w (fun r w' => (∃ v, r = some (.int v)) ∧ I w' ∧ Fr SA w w' ∧ J w') := by
  refine PM_of pn_CM_drop (le_b rfl) ?_
  show PW _ _ _ _ _ _ (0, [(0, .ref 0), (1, .int a1)], [], w)
  obtain ⟨b, hb, e0⟩ := hI.cm
  obtain ⟨hb1, hb2⟩ := pl_rng hb
  obtain ⟨lc, qc, mc, pc, eb, hlc, hqc, hmc, hpc⟩ := hI.pl hb
  obtain ⟨el, ct, he, hc, ep⟩ := hI.past
  obtain ⟨fd, ed⟩ := hI.ints (r := 170) (by decide) kc_170
  have hj := hJ b lc qc mc pc el ct fd e0 eb hpc ep he hc ed
  refine P_aload_n d_CM_drop_0 rfl ?_
  refine P_getf (i := 0) d_CM_drop_1 ok_CM (by decide) L_CM_12 e0 rfl ?_
  refine P_iload_n d_CM_drop_4 rfl ?_
  refine P_callV (M := M_CM_drop) (pc := 5) (as := [.int a1]) (b := b) d_CM_drop_5 co_Plane_hasMap ok_Plane eb L_CM_151 im_Plane_hasMap se_Plane_hasMap (s_Plane_hasMap eb hlc hqc hmc hpc a1) rfl ⟨by decide, by decide⟩ ⟨by decide, by decide⟩ (by exact le_b rfl) ?_ _ rfl
  rintro _ u ⟨rfl, eu⟩
  subst u
  show PW _ _ _ _ _ _ (8, [(0, .ref 0), (1, .int a1)], [.int (bi (inN mc a1))], w)
  refine P_if_ne 13 d_CM_drop_8 (by decide) (fun c2 => ?_) (fun c2 => ?_)
  · obtain ⟨a1N, ha1N, rfl⟩ := inN_of (bi_1 c2) (by omega)
    refine P_aload_n d_CM_drop_13 rfl ?_
    refine P_getf (i := 4) d_CM_drop_14 ok_CM (by decide) L_CM_47 e0 rfl ?_
    refine P_iload_n d_CM_drop_17 rfl ?_
    refine P_aload_n d_CM_drop_18 rfl ?_
    refine P_getf (i := 0) d_CM_drop_19 ok_CM (by decide) L_CM_12 e0 rfl ?_
    refine P_getfN (i := 1) d_CM_drop_22 ok_Plane (by decide) L_CM_157 eb rfl ?_
    refine P_iload_n d_CM_drop_25 rfl ?_
    refine P_aald (j := a1N) (q := b + 2 + 1 + a1N) d_CM_drop_26 (hI.ms hb) rfl (ix_nI (by omega)) (by omega) (rows_at (by omega)) ?_
    refine P_callV (M := M_CM_drop) (pc := 27) (as := [.int (nI a1N), .ref (b + 2 + 1 + a1N)]) (b := 169) d_CM_drop_27 co_Past_dropped ok_Past ep L_CM_218 im_Past_dropped se_Past_dropped (s_Past_dropped hI ep (by omega) (by omega) ed (nI a1N) (by omega) (Kc_m hb (by omega)) (by omega)) rfl ⟨by decide, by decide⟩ ⟨by decide, by decide⟩ (by exact le_b rfl) ?_ _ rfl
    rintro _ w3 ⟨rfl, hI3, hG3, ka3, kb3⟩
    have hF3 : Fr SA w w3 := Fr.tr Fr.rf (Fr.pa hG3)
    have hpl := pPl_lt el ct
    have hpe := pEl_le (ct := ct) he
    have hpc2 := pCt_le hc
    show PW _ _ _ _ _ _ (30, [(0, .ref 0), (1, .int (nI a1N))], [], w3)
    refine P_aload_n d_CM_drop_30 rfl ?_
    refine P_getf (i := 0) d_CM_drop_31 ok_CM (by decide) L_CM_12 ((hG3.2 _ (SP_f (by omega))).trans e0) rfl ?_
    refine P_iload_n d_CM_drop_34 rfl ?_
    refine P_callV (M := M_CM_drop) (pc := 35) (as := [.int (nI a1N)]) (b := b) d_CM_drop_35 co_Plane_removeMap ok_Plane ((hG3.2 _ (SP_f (by omega))).trans eb) L_CM_222 im_Plane_removeMap se_Plane_removeMap (s_Plane_removeMap hI3 hb ((hG3.2 _ (SP_f (by omega))).trans eb) (by omega) (by omega) (by omega) (by omega) (nI a1N)) rfl ⟨by decide, by decide⟩ ⟨by decide, by decide⟩ (by exact le_b rfl) ?_ _ rfl
    rintro _ w4 ⟨rfl, hI4, hG4, m4, hm4, k4⟩
    have hF4 : Fr SA w w4 := Fr.tr hF3 (Fr.pb ⟨hb1, hb2⟩ hG4)
    show PW _ _ _ _ _ _ (38, [(0, .ref 0), (1, .int (nI a1N))], [], w4)
    refine P_aload_n d_CM_drop_38 rfl ?_
    refine P_getf (i := 0) d_CM_drop_39 ok_CM (by decide) L_CM_12 ((hG4.2 _ (SQ_f (by omega))).trans ((hG3.2 _ (SP_f (by omega))).trans e0)) rfl ?_
    refine P_getfN (i := 5) d_CM_drop_42 ok_Plane (by decide) L_CM_225 k4 rfl ?_
    exact P_iret d_CM_drop_45 rfl (le_b rfl) (le_b rfl) ⟨⟨_, rfl⟩, hI4, hF4, J.mk (b := b) ((hG4.2 _ (SQ_f (by omega))).trans ((hG3.2 _ (SP_f (by omega))).trans e0)) k4 (by omega) ((hG4.2 _ (SQ_f (by omega))).trans ka3) (by omega) (by omega) ((hG4.2 _ (SQ_f (by omega))).trans kb3) (tolds_d he hc (by decide) hj)⟩
  · refine P_iconst (v := (-1)) d_CM_drop_11 (by decide) ?_
    exact P_iret d_CM_drop_12 rfl (le_b rfl) (le_b rfl) ⟨⟨_, rfl⟩, hI, Fr.rf, J.mk (b := b) e0 eb (by omega) ep (by omega) (by omega) ed hj⟩
theorem s_CM_tell {G : pG} {w : pW} (hG : GO G) (hI : I w) (hJ : J w) (a1 : Int32) (a2 : Int32) (a3 : Int32) : PM G M_CM_tell 4 0 0 [.ref 0, .int a1, .int a2, .int a3] w (fun r w' => (∃ v, r = some (.int v)) ∧ I w' ∧ Fr SA w w' ∧ J w') := by
  refine PM_of pn_CM_tell (le_b rfl) ?_
  show PW _ _ _ _ _ _ (0, [(0, .ref 0), (1, .int a1), (2, .int a2), (3, .int a3)], [], w)
  obtain ⟨b, hb, e0⟩ := hI.cm
  obtain ⟨hb1, hb2⟩ := pl_rng hb
  obtain ⟨lc, qc, mc, pc, eb, hlc, hqc, hmc, hpc⟩ := hI.pl hb
  obtain ⟨el, ct, he, hc, ep⟩ := hI.past
  obtain ⟨fd, ed⟩ := hI.ints (r := 170) (by decide) kc_170
  have hj := hJ b lc qc mc pc el ct fd e0 eb hpc ep he hc ed
  refine P_iload_n d_CM_tell_0 rfl ?_
  refine P_iload_n d_CM_tell_1 rfl ?_
  refine P_iload_n d_CM_tell_2 rfl ?_
  refine P_callS (M := M_CM_tell) (pc := 3) (as := [.int a1, .int a2, .int a3]) d_CM_tell_3 co_CM_areNumbers L_CM_228 sm_CM_areNumbers (v_CM_areNumbers a1 a2 a3) rfl ⟨by decide, by decide⟩ ⟨by decide, by decide⟩ (by exact le_b rfl) ?_ _ rfl
  rintro _ u ⟨rfl, eu⟩
  subst u
  show PW _ _ _ _ _ _ (6, [(0, .ref 0), (1, .int a1), (2, .int a2), (3, .int a3)], [.int (bi (edge3 a1 a2 a3))], w)
  refine P_if_ne 11 d_CM_tell_6 (by decide) (fun c1 => ?_) (fun c1 => ?_)
  · refine P_aload_n d_CM_tell_11 rfl ?_
    refine P_getf (i := 0) d_CM_tell_12 ok_CM (by decide) L_CM_12 e0 rfl ?_
    refine P_getfN (i := 6) d_CM_tell_15 ok_Plane (by decide) L_CM_232 eb rfl ?_
    refine P_bipush (v := 8) d_CM_tell_18 (by decide) ?_
    refine P_icmp_eq 32 d_CM_tell_20 (by decide) (fun c2 => ?_) (fun c2 => ?_)
    · have ic2 : pc = 8 := (nI_eq (by omega) (by omega)).mp c2
      refine P_bipush (v := (-2)) d_CM_tell_32 (by decide) ?_
      exact P_iret d_CM_tell_34 rfl (le_b rfl) (le_b rfl) ⟨⟨_, rfl⟩, hI, Fr.rf, J.mk (b := b) e0 eb (by omega) ep (by omega) (by omega) ed hj⟩
    · have ic2 : pc ≠ 8 := fun q => c2 (congrArg nI q)
      refine P_iload_n d_CM_tell_23 rfl ?_
      refine P_iload_n d_CM_tell_24 rfl ?_
      refine P_iload_n d_CM_tell_25 rfl ?_
      refine P_callS (M := M_CM_tell) (pc := 26) (as := [.int a1, .int a2, .int a3]) d_CM_tell_26 co_CM_isSomething L_CM_235 sm_CM_isSomething (v_CM_isSomething a1 a2 a3) rfl ⟨by decide, by decide⟩ ⟨by decide, by decide⟩ (by exact le_b rfl) ?_ _ rfl
      rintro _ u ⟨rfl, eu⟩
      subst u
      show PW _ _ _ _ _ _ (29, [(0, .ref 0), (1, .int a1), (2, .int a2), (3, .int a3)], [.int (bi (some3 a1 a2 a3))], w)
      refine P_if_ne 35 d_CM_tell_29 (by decide) (fun c3 => ?_) (fun c3 => ?_)
      · refine P_iload_n d_CM_tell_35 rfl ?_
        refine P_i2l d_CM_tell_36 ?_
        refine P_iload_n d_CM_tell_37 rfl ?_
        refine P_i2l d_CM_tell_38 ?_
        refine P_iload_n d_CM_tell_39 rfl ?_
        refine P_i2l d_CM_tell_40 ?_
        refine P_aload_n d_CM_tell_41 rfl ?_
        refine P_getf (i := 11) d_CM_tell_42 ok_CM (by decide) L_CM_75 e0 rfl ?_
        obtain ⟨f4, f4e⟩ := hI.row (r := 452) (by decide) kc_452
        refine P_callS (M := M_CM_tell) (pc := 45) (as := [.long a1.toInt64, .long a2.toInt64, .long a3.toInt64, .ref 452]) d_CM_tell_45 co_Rows_put L_CM_238 sm_Rows_put (v_Rows_put f4e (by decide) a1.toInt64 a2.toInt64 a3.toInt64) rfl ⟨by decide, by decide⟩ ⟨by decide, by decide⟩ (by exact le_b rfl) ?_ _ rfl
        rintro _ w5 ⟨rfl, e5⟩
        have s5 := w_s e5
        generalize p3 _ _ _ _ = g6 at e5 s5
        have hI5 : I w5 := hI.setL e5 kc_452
        have hF5 : Fr SA w w5 := Fr.set Fr.rf e5 (SA_t (by omega))
        show PW _ _ _ _ _ _ (48, [(0, .ref 0), (1, .int a1), (2, .int a2), (3, .int a3)], [], w5)
        refine P_aload_n d_CM_tell_48 rfl ?_
        refine P_getf (i := 0) d_CM_tell_49 ok_CM (by decide) L_CM_12 ((w_n e5 _ (by decide)).trans e0) rfl ?_
        refine P_aload_n d_CM_tell_52 rfl ?_
        refine P_getf (i := 11) d_CM_tell_53 ok_CM (by decide) L_CM_75 ((w_n e5 _ (by decide)).trans e0) rfl ?_
        refine P_callV (M := M_CM_tell) (pc := 56) (as := [.ref 452]) (b := b) d_CM_tell_56 co_Plane_addPoint ok_Plane ((w_n e5 _ (by omega)).trans eb) L_CM_241 im_Plane_addPoint se_Plane_addPoint (s_Plane_addPoint hI5 hb ((w_n e5 _ (by omega)).trans eb) (by omega) (by omega) (by omega) (by omega) (by decide) kc_452 (by omega)) rfl ⟨by decide, by decide⟩ ⟨by decide, by decide⟩ (by exact le_b rfl) ?_ _ rfl
        rintro _ w7 ⟨rfl, hI7, hG7, k7⟩
        have hF7 : Fr SA w w7 := Fr.tr hF5 (Fr.pb ⟨hb1, hb2⟩ hG7)
        show PW _ _ _ _ _ _ (59, [(0, .ref 0), (1, .int a1), (2, .int a2), (3, .int a3)], [], w7)
        refine P_aload_n d_CM_tell_59 rfl ?_
        refine P_getf (i := 4) d_CM_tell_60 ok_CM (by decide) L_CM_47 ((hG7.2 _ (SQ_f (by omega))).trans ((w_n e5 _ (by decide)).trans e0)) rfl ?_
        refine P_callV (M := M_CM_tell) (pc := 63) (as := []) (b := 169) d_CM_tell_63 co_Past_told ok_Past ((hG7.2 _ (SQ_f (by omega))).trans ((w_n e5 _ (by decide)).trans ep)) L_CM_245 im_Past_told se_Past_told (s_Past_told hI7 ((hG7.2 _ (SQ_f (by omega))).trans ((w_n e5 _ (by decide)).trans ep)) (by omega) (by omega) ((hG7.2 _ (SQ_f (by omega))).trans ((w_n e5 _ (by decide)).trans ed))) rfl ⟨by decide, by decide⟩ ⟨by decide, by decide⟩ (by exact le_b rfl) ?_ _ rfl
        rintro _ w8 ⟨rfl, hI8, hG8, ka8, kb8⟩
        have hF8 : Fr SA w w8 := Fr.tr hF7 (Fr.pa hG8)
        have hpl := pPl_lt el ct
        have hpe := pEl_le (ct := ct) he
        have hpc2 := pCt_le hc
        show PW _ _ _ _ _ _ (66, [(0, .ref 0), (1, .int a1), (2, .int a2), (3, .int a3)], [], w8)
        refine P_aload_n d_CM_tell_66 rfl ?_
        refine P_getf (i := 0) d_CM_tell_67 ok_CM (by decide) L_CM_12 ((hG8.2 _ (SP_f (by omega))).trans ((hG7.2 _ (SQ_f (by omega))).trans ((w_n e5 _ (by decide)).trans e0))) rfl ?_
        refine P_getfN (i := 6) d_CM_tell_70 ok_Plane (by decide) L_CM_232 ((hG8.2 _ (SP_f (by omega))).trans k7) rfl ?_
        refine P_iconst (v := 1) d_CM_tell_73 (by decide) ?_
        refine P_isubN (a := (pc + 1)) (b := 1) d_CM_tell_74 (by omega) ?_
        show PW _ _ _ _ _ _ (75, [(0, .ref 0), (1, .int a1), (2, .int a2), (3, .int a3)], [.int (nI ((pc + 1) - 1))], w8)
        exact P_iret d_CM_tell_75 rfl (le_b rfl) (le_b rfl) ⟨⟨_, rfl⟩, hI8, hF8, J.mk (b := b) ((hG8.2 _ (SP_f (by omega))).trans ((hG7.2 _ (SQ_f (by omega))).trans ((w_n e5 _ (by decide)).trans e0))) ((hG8.2 _ (SP_f (by omega))).trans k7) (by omega) ka8 (by omega) (by omega) kb8 (tolds_t he hc hj)⟩
      · refine P_bipush (v := (-2)) d_CM_tell_32 (by decide) ?_
        exact P_iret d_CM_tell_34 rfl (le_b rfl) (le_b rfl) ⟨⟨_, rfl⟩, hI, Fr.rf, J.mk (b := b) e0 eb (by omega) ep (by omega) (by omega) ed hj⟩
  · refine P_iconst (v := (-1)) d_CM_tell_9 (by decide) ?_
    exact P_iret d_CM_tell_10 rfl (le_b rfl) (le_b rfl) ⟨⟨_, rfl⟩, hI, Fr.rf, J.mk (b := b) e0 eb (by omega) ep (by omega) (by omega) ed hj⟩
theorem s_CM_moves {G : pG} {w : pW} (hG : GO G) (hI : I w) (hJ : J w) (a1 : Int32) : PM G M_CM_moves 4 0 0 [.ref 0, .int a1] w (fun r w' => (∃ v, r = some (.int v)) ∧ I w' ∧ Fr SA w w' ∧ J w') := by
  refine PM_of pn_CM_moves (le_b rfl) ?_
  show PW _ _ _ _ _ _ (0, [(0, .ref 0), (1, .int a1)], [], w)
  obtain ⟨b, hb, e0⟩ := hI.cm
  obtain ⟨hb1, hb2⟩ := pl_rng hb
  obtain ⟨lc, qc, mc, pc, eb, hlc, hqc, hmc, hpc⟩ := hI.pl hb
  obtain ⟨el, ct, he, hc, ep⟩ := hI.past
  obtain ⟨fd, ed⟩ := hI.ints (r := 170) (by decide) kc_170
  have hj := hJ b lc qc mc pc el ct fd e0 eb hpc ep he hc ed
  refine P_aload_n d_CM_moves_0 rfl ?_
  refine P_getf (i := 0) d_CM_moves_1 ok_CM (by decide) L_CM_12 e0 rfl ?_
  refine P_iload_n d_CM_moves_4 rfl ?_
  refine P_callV (M := M_CM_moves) (pc := 5) (as := [.int a1]) (b := b) d_CM_moves_5 co_Plane_hasMap ok_Plane eb L_CM_151 im_Plane_hasMap se_Plane_hasMap (s_Plane_hasMap eb hlc hqc hmc hpc a1) rfl ⟨by decide, by decide⟩ ⟨by decide, by decide⟩ (by exact le_b rfl) ?_ _ rfl
  rintro _ u ⟨rfl, eu⟩
  subst u
  show PW _ _ _ _ _ _ (8, [(0, .ref 0), (1, .int a1)], [.int (bi (inN mc a1))], w)
  refine P_if_ne 13 d_CM_moves_8 (by decide) (fun c2 => ?_) (fun c2 => ?_)
  · obtain ⟨a1N, ha1N, rfl⟩ := inN_of (bi_1 c2) (by omega)
    refine P_iconst (v := 0) d_CM_moves_13 (by decide) ?_
    refine P_istore_n d_CM_moves_14 (by decide) rfl ?_
    refine PW_ind (σ := pW) (pc) (fun jj ss => I (ss) ∧ Fr SA w (ss) ∧ (ss).2 0 = .inr (8, [.ref b, .ref (78 - b), .ref 153, .ref 164, .ref 169, .ref 155, .ref 189, .ref 447, .ref 449, .ref 450, .ref 451, .ref 452, .ref 453, .ref 454, .ref 455, .ref 456, .ref 457, .ref 466]) ∧ (ss).2 b = .inr (1, [.ref (b + 1), .ref (b + 2), .ref (b + 19), .int (nI lc), .int (nI qc), .int (nI mc), .int (nI pc)]) ∧ (ss).2 169 = .inr (5, [.ref 170, .ref 171, .ref 172, .int (nI el), .int (nI ct)]) ∧ (ss).2 170 = .inl (0, 16, .inl fd)) (fun jj ss => (15, [(0, .ref 0), (1, .int (nI a1N)), (2, .int (nI jj))], [], ss)) ?_ ?_ 0 (w) (by omega) ⟨hI, Fr.rf, e0, eb, ep, ed⟩
    · rintro uj3 ⟨hIj3, hFj3, kj3_0, kj3_1, kj3_2, kj3_3⟩
      show PW _ _ _ _ _ _ (15, [(0, .ref 0), (1, .int (nI a1N)), (2, .int (nI pc))], [], uj3)
      refine P_iload_n d_CM_moves_15 rfl ?_
      refine P_aload_n d_CM_moves_16 rfl ?_
      refine P_getf (i := 0) d_CM_moves_17 ok_CM (by decide) L_CM_12 kj3_0 rfl ?_
      refine P_getfN (i := 6) d_CM_moves_20 ok_Plane (by decide) L_CM_232 kj3_1 rfl ?_
      refine P_icmp_ge 74 d_CM_moves_23 (by decide) (fun _ => ?_) (fun h => absurd (Int32.le_refl _) h)
      refine P_aload_n d_CM_moves_74 rfl ?_
      refine P_getf (i := 4) d_CM_moves_75 ok_CM (by decide) L_CM_47 kj3_0 rfl ?_
      refine P_aload_n d_CM_moves_78 rfl ?_
      refine P_getf (i := 0) d_CM_moves_79 ok_CM (by decide) L_CM_12 kj3_0 rfl ?_
      refine P_getfN (i := 2) d_CM_moves_82 ok_Plane (by decide) L_CM_163 kj3_1 rfl ?_
      refine P_callV (M := M_CM_moves) (pc := 85) (as := [.ref (b + 19)]) (b := 169) d_CM_moves_85 co_Past_moved ok_Past kj3_2 L_CM_254 im_Past_moved se_Past_moved (s_Past_moved hIj3 kj3_2 (by omega) (by omega) kj3_3 hb) rfl ⟨by decide, by decide⟩ ⟨by decide, by decide⟩ (by exact le_b rfl) ?_ _ rfl
      rintro _ w4 ⟨rfl, hI4, hG4, ka4, kb4⟩
      have hF4 : Fr SA w w4 := Fr.tr hFj3 (Fr.pa hG4)
      have hpl := pPl_lt el ct
      have hpe := pEl_le (ct := ct) he
      have hpc2 := pCt_le hc
      show PW _ _ _ _ _ _ (88, [(0, .ref 0), (1, .int (nI a1N)), (2, .int (nI pc))], [], w4)
      refine P_iconst (v := 0) d_CM_moves_88 (by decide) ?_
      refine P_istore_n d_CM_moves_89 (by decide) rfl ?_
      refine PW_ind (σ := pW) (pc) (fun jj ss => I (ss) ∧ Fr SA w (ss) ∧ (ss).2 0 = .inr (8, [.ref b, .ref (78 - b), .ref 153, .ref 164, .ref 169, .ref 155, .ref 189, .ref 447, .ref 449, .ref 450, .ref 451, .ref 452, .ref 453, .ref 454, .ref 455, .ref 456, .ref 457, .ref 466]) ∧ (ss).2 b = .inr (1, [.ref (b + 1), .ref (b + 2), .ref (b + 19), .int (nI lc), .int (nI qc), .int (nI mc), .int (nI pc)]) ∧ (ss).2 169 = .inr (5, [.ref 170, .ref 171, .ref 172, .int (nI (pEl el ct)), .int (nI (pCt ct))]) ∧ (ss).2 170 = .inl (0, 16, .inl (upd fd (pPl el ct) 3))) (fun jj ss => (90, [(0, .ref 0), (1, .int (nI a1N)), (2, .int (nI jj))], [], ss)) ?_ ?_ 0 (w4) (by omega) ⟨hI4, hF4, ((hG4.2 _ (SP_f (by omega))).trans kj3_0), ((hG4.2 _ (SP_f (by omega))).trans kj3_1), ka4, kb4⟩
      · rintro uj5 ⟨hIj5, hFj5, kj5_0, kj5_1, kj5_2, kj5_3⟩
        show PW _ _ _ _ _ _ (90, [(0, .ref 0), (1, .int (nI a1N)), (2, .int (nI pc))], [], uj5)
        refine P_iload_n d_CM_moves_90 rfl ?_
        refine P_aload_n d_CM_moves_91 rfl ?_
        refine P_getf (i := 0) d_CM_moves_92 ok_CM (by decide) L_CM_12 kj5_0 rfl ?_
        refine P_getfN (i := 6) d_CM_moves_95 ok_Plane (by decide) L_CM_232 kj5_1 rfl ?_
        refine P_icmp_ge 125 d_CM_moves_98 (by decide) (fun _ => ?_) (fun h => absurd (Int32.le_refl _) h)
        refine P_aload_n d_CM_moves_125 rfl ?_
        refine P_getf (i := 0) d_CM_moves_126 ok_CM (by decide) L_CM_12 kj5_0 rfl ?_
        refine P_getfN (i := 6) d_CM_moves_129 ok_Plane (by decide) L_CM_232 kj5_1 rfl ?_
        refine P_aload_n d_CM_moves_132 rfl ?_
        refine P_getf (i := 0) d_CM_moves_133 ok_CM (by decide) L_CM_12 kj5_0 rfl ?_
        refine P_callV (M := M_CM_moves) (pc := 136) (as := []) (b := b) d_CM_moves_136 co_Plane_finitePoints ok_Plane kj5_1 L_CM_257 im_Plane_finitePoints se_Plane_finitePoints (s_Plane_finitePoints hIj5 hb) rfl ⟨by decide, by decide⟩ ⟨by decide, by decide⟩ (by exact le_b rfl) ?_ _ rfl
        rintro _ w6 ⟨⟨v6, rfl⟩, hI6, hG6⟩
        have hF6 : Fr SA w w6 := Fr.tr hFj5 (Fr.up hG6)
        show PW _ _ _ _ _ _ (139, [(0, .ref 0), (1, .int (nI a1N)), (2, .int (nI pc))], [.int v6, .int (nI pc)], w6)
        refine P_isub d_CM_moves_139 ?_
        exact P_iret d_CM_moves_140 rfl (le_b rfl) (le_b rfl) ⟨⟨_, rfl⟩, hI6, hF6, J.mk (b := b) ((hG6.2 _ (SC_f (by omega))).trans kj5_0) ((hG6.2 _ (SC_f (by omega))).trans kj5_1) (by omega) ((hG6.2 _ (SC_f (by omega))).trans kj5_2) (by omega) (by omega) ((hG6.2 _ (SC_f (by omega))).trans kj5_3) (tolds_d he hc (by decide) hj)⟩
      · rintro j5 uj5 hj5 ⟨hIj5, hFj5, kj5_0, kj5_1, kj5_2, kj5_3⟩ kkj5
        show PW _ _ _ _ _ _ (90, [(0, .ref 0), (1, .int (nI a1N)), (2, .int (nI j5))], [], uj5)
        refine P_iload_n d_CM_moves_90 rfl ?_
        refine P_aload_n d_CM_moves_91 rfl ?_
        refine P_getf (i := 0) d_CM_moves_92 ok_CM (by decide) L_CM_12 kj5_0 rfl ?_
        refine P_getfN (i := 6) d_CM_moves_95 ok_Plane (by decide) L_CM_232 kj5_1 rfl ?_
        refine P_icmp_ge 125 d_CM_moves_98 (by decide) (fun h => absurd h (nI_geF (a := j5) (b := pc) (by omega) (by omega))) (fun _ => ?_)
        refine P_aload_n d_CM_moves_101 rfl ?_
        refine P_getf (i := 16) d_CM_moves_102 ok_CM (by decide) L_CM_92 kj5_0 rfl ?_
        refine P_iload_n d_CM_moves_105 rfl ?_
        refine P_aald (j := j5) (q := 457 + 1 + j5) d_CM_moves_106 (hIj5.rows (r := 457) (by decide) kc_457) rfl (ix_nI (by omega)) (by omega) (rows_at (by omega)) ?_
        refine P_aload_n d_CM_moves_107 rfl ?_
        refine P_getf (i := 0) d_CM_moves_108 ok_CM (by decide) L_CM_12 kj5_0 rfl ?_
        refine P_getfN (i := 2) d_CM_moves_111 ok_Plane (by decide) L_CM_163 kj5_1 rfl ?_
        refine P_iload_n d_CM_moves_114 rfl ?_
        refine P_aald (j := j5) (q := b + 19 + 1 + j5) d_CM_moves_115 (hIj5.ps hb) rfl (ix_nI (by omega)) (by omega) (rows_at (by omega)) ?_
        obtain ⟨f7, f7e⟩ := hIj5.row (r := 457 + 1 + j5) (by omega) (Kc_mv (by omega))
        obtain ⟨f8, f8e⟩ := hIj5.row (r := b + 19 + 1 + j5) (by omega) (Kc_p hb (by omega))
        refine P_callS (M := M_CM_moves) (pc := 116) (as := [.ref (457 + 1 + j5), .ref (b + 19 + 1 + j5)]) d_CM_moves_116 co_Rows_copy L_CM_209 sm_Rows_copy (v_Rows_copy f7e f8e (by decide) (by omega)) rfl ⟨by decide, by decide⟩ ⟨by decide, by decide⟩ (by exact le_b rfl) ?_ _ rfl
        rintro _ w9 ⟨rfl, e9⟩
        have s9 := w_s e9
        generalize va_cpy _ _ _ _ _ = g10 at e9 s9
        have hI9 : I w9 := hIj5.setL e9 (Kc_p hb (by omega))
        have hF9 : Fr SA w w9 := Fr.set hFj5 e9 (SA_t (by omega))
        show PW _ _ _ _ _ _ (119, [(0, .ref 0), (1, .int (nI a1N)), (2, .int (nI j5))], [], w9)
        refine P_iinc (v := nI (j5 + 1)) d_CM_moves_119 (by decide) rfl (nI_add j5 1) rfl ?_
        refine P_goto 90 d_CM_moves_122 (by decide) ?_
        exact kkj5 (w9) ⟨hI9, hF9, ((w_n e9 _ (by omega)).trans kj5_0), ((w_n e9 _ (by omega)).trans kj5_1), ((w_n e9 _ (by omega)).trans kj5_2), ((w_n e9 _ (by omega)).trans kj5_3)⟩
    · rintro j3 uj3 hj3 ⟨hIj3, hFj3, kj3_0, kj3_1, kj3_2, kj3_3⟩ kkj3
      show PW _ _ _ _ _ _ (15, [(0, .ref 0), (1, .int (nI a1N)), (2, .int (nI j3))], [], uj3)
      refine P_iload_n d_CM_moves_15 rfl ?_
      refine P_aload_n d_CM_moves_16 rfl ?_
      refine P_getf (i := 0) d_CM_moves_17 ok_CM (by decide) L_CM_12 kj3_0 rfl ?_
      refine P_getfN (i := 6) d_CM_moves_20 ok_Plane (by decide) L_CM_232 kj3_1 rfl ?_
      refine P_icmp_ge 74 d_CM_moves_23 (by decide) (fun h => absurd h (nI_geF (a := j3) (b := pc) (by omega) (by omega))) (fun _ => ?_)
      refine P_aload_n d_CM_moves_26 rfl ?_
      refine P_getf (i := 0) d_CM_moves_27 ok_CM (by decide) L_CM_12 kj3_0 rfl ?_
      refine P_getfN (i := 1) d_CM_moves_30 ok_Plane (by decide) L_CM_157 kj3_1 rfl ?_
      refine P_iload_n d_CM_moves_33 rfl ?_
      refine P_aald (j := a1N) (q := b + 2 + 1 + a1N) d_CM_moves_34 (hIj3.ms hb) rfl (ix_nI (by omega)) (by omega) (rows_at (by omega)) ?_
      refine P_aload_n d_CM_moves_35 rfl ?_
      refine P_getf (i := 0) d_CM_moves_36 ok_CM (by decide) L_CM_12 kj3_0 rfl ?_
      refine P_getfN (i := 2) d_CM_moves_39 ok_Plane (by decide) L_CM_163 kj3_1 rfl ?_
      refine P_iload_n d_CM_moves_42 rfl ?_
      refine P_aald (j := j3) (q := b + 19 + 1 + j3) d_CM_moves_43 (hIj3.ps hb) rfl (ix_nI (by omega)) (by omega) (rows_at (by omega)) ?_
      refine P_aload_n d_CM_moves_44 rfl ?_
      refine P_getf (i := 16) d_CM_moves_45 ok_CM (by decide) L_CM_92 kj3_0 rfl ?_
      refine P_iload_n d_CM_moves_48 rfl ?_
      refine P_aald (j := j3) (q := 457 + 1 + j3) d_CM_moves_49 (hIj3.rows (r := 457) (by decide) kc_457) rfl (ix_nI (by omega)) (by omega) (rows_at (by omega)) ?_
      obtain ⟨f11, f11e⟩ := hIj3.row (r := b + 2 + 1 + a1N) (by omega) (Kc_m hb (by omega))
      obtain ⟨f12, f12e⟩ := hIj3.row (r := b + 19 + 1 + j3) (by omega) (Kc_p hb (by omega))
      obtain ⟨f13, f13e⟩ := hIj3.row (r := 457 + 1 + j3) (by omega) (Kc_mv (by omega))
      refine P_callS (M := M_CM_moves) (pc := 50) (as := [.ref (b + 2 + 1 + a1N), .ref (b + 19 + 1 + j3), .ref (457 + 1 + j3)]) d_CM_moves_50 co_Maps_apply L_CM_248 sm_Maps_apply (s_Maps_apply f11e f12e f13e (by omega) (by omega) (by omega)) rfl ⟨by decide, by decide⟩ ⟨by decide, by decide⟩ (by exact le_b rfl) ?_ _ rfl
      rintro _ w14 ⟨rfl, g14, e14⟩
      have s14 := w_s e14
      have hI14 : I w14 := hIj3.setL e14 (Kc_mv (by omega))
      have hF14 : Fr SA w w14 := Fr.set hFj3 e14 (SA_t (by omega))
      show PW _ _ _ _ _ _ (53, [(0, .ref 0), (1, .int (nI a1N)), (2, .int (nI j3))], [], w14)
      refine P_aload_n d_CM_moves_53 rfl ?_
      refine P_getf (i := 16) d_CM_moves_54 ok_CM (by decide) L_CM_92 ((w_n e14 _ (by omega)).trans kj3_0) rfl ?_
      refine P_iload_n d_CM_moves_57 rfl ?_
      refine P_aald (j := j3) (q := 457 + 1 + j3) d_CM_moves_58 (hI14.rows (r := 457) (by decide) kc_457) rfl (ix_nI (by omega)) (by omega) (rows_at (by omega)) ?_
      refine P_callS (M := M_CM_moves) (pc := 59) (as := [.ref (457 + 1 + j3)]) d_CM_moves_59 co_Rows_isNear L_CM_251 sm_Rows_isNear (s_Rows_isNear s14) rfl ⟨by decide, by decide⟩ ⟨by decide, by decide⟩ (by exact le_b rfl) ?_ _ rfl
      rintro _ u ⟨⟨v15, rfl⟩, eu⟩
      subst u
      show PW _ _ _ _ _ _ (62, [(0, .ref 0), (1, .int (nI a1N)), (2, .int (nI j3))], [.int (bi v15)], w14)
      refine P_if_ne 68 d_CM_moves_62 (by decide) (fun c16 => ?_) (fun c16 => ?_)
      · refine P_iinc (v := nI (j3 + 1)) d_CM_moves_68 (by decide) rfl (nI_add j3 1) rfl ?_
        refine P_goto 15 d_CM_moves_71 (by decide) ?_
        exact kkj3 (w14) ⟨hI14, hF14, ((w_n e14 _ (by omega)).trans kj3_0), ((w_n e14 _ (by omega)).trans kj3_1), ((w_n e14 _ (by omega)).trans kj3_2), ((w_n e14 _ (by omega)).trans kj3_3)⟩
      · refine P_bipush (v := (-2)) d_CM_moves_65 (by decide) ?_
        exact P_iret d_CM_moves_67 rfl (le_b rfl) (le_b rfl) ⟨⟨_, rfl⟩, hI14, hF14, J.mk (b := b) ((w_n e14 _ (by omega)).trans kj3_0) ((w_n e14 _ (by omega)).trans kj3_1) (by omega) ((w_n e14 _ (by omega)).trans kj3_2) (by omega) (by omega) ((w_n e14 _ (by omega)).trans kj3_3) hj⟩
  · refine P_iconst (v := (-1)) d_CM_moves_11 (by decide) ?_
    exact P_iret d_CM_moves_12 rfl (le_b rfl) (le_b rfl) ⟨⟨_, rfl⟩, hI, Fr.rf, J.mk (b := b) e0 eb (by omega) ep (by omega) (by omega) ed hj⟩
theorem s_Plane_returnMap {G : pG} {w : pW} (hI : I w) {b : Nat} (hb : b = 1 ∨ b = 77) {lc qc mc pc : Nat} (eb : w.2 b = plE b lc qc mc pc) (hlc : lc ≤ 900) (hqc : qc ≤ 8) (hmc : mc ≤ 16) (hpc : pc ≤ 8) (a : Int32) {u : Nat} (hlu : u < 487) (hku : Kc u = (1, 24, 0)) (hu : 153 ≤ u) : PM G M_Plane_returnMap 2 0 0 [.ref b, .int a, .ref u] w (fun r w' => r = none ∧ I w' ∧ Fr (SQ b) w w' ∧ ∃ m', m' ≤ 16 ∧ w'.2 b = plE b lc qc m' pc) := by
  refine PM_of pn_Plane_returnMap (le_b rfl) ?_
  show PW _ _ _ _ _ _ (0, [(0, .ref b), (1, .int a), (2, .ref u)], [], w)
  obtain ⟨hb1, hb2⟩ := pl_rng hb
  refine P_iload_n d_Plane_returnMap_0 rfl ?_
  refine P_if_lt 74 d_Plane_returnMap_1 (by decide) (fun c1 => ?_) (fun c1 => ?_)
  · exact P_vret d_Plane_returnMap_74 rfl (le_b rfl) (le_b rfl) ⟨rfl, hI, Fr.rf, mc, by omega, eb⟩
  · refine P_iload_n d_Plane_returnMap_4 rfl ?_
    refine P_aload_n d_Plane_returnMap_5 rfl ?_
    refine P_getf (i := 5) d_Plane_returnMap_6 ok_Plane (by decide) L_Plane_33 eb rfl ?_
    refine P_icmp_gt 74 d_Plane_returnMap_9 (by decide) (fun c2 => ?_) (fun c2 => ?_)
    · exact P_vret d_Plane_returnMap_74 rfl (le_b rfl) (le_b rfl) ⟨rfl, hI, Fr.rf, mc, by omega, eb⟩
    · obtain ⟨aN, haN, rfl⟩ := nI_of_gt (n := mc) c1 c2 (nI_toInt (by omega))
      refine P_aload_n d_Plane_returnMap_12 rfl ?_
      refine P_getf (i := 5) d_Plane_returnMap_13 ok_Plane (by decide) L_Plane_33 eb rfl ?_
      refine P_bipush (v := 16) d_Plane_returnMap_16 (by decide) ?_
      refine P_icmp_ge 74 d_Plane_returnMap_18 (by decide) (fun c3 => ?_) (fun c3 => ?_)
      · have ic3 : mc ≥ 16 := nI_get (by omega) (by omega) c3
        exact P_vret d_Plane_returnMap_74 rfl (le_b rfl) (le_b rfl) ⟨rfl, hI, Fr.rf, mc, by omega, eb⟩
      · have ic3 : mc < 16 := nI_gef (by omega) (by omega) c3
        refine P_aload_n d_Plane_returnMap_21 rfl ?_
        refine P_getf (i := 5) d_Plane_returnMap_22 ok_Plane (by decide) L_Plane_33 eb rfl ?_
        refine P_istore_n d_Plane_returnMap_25 (by decide) rfl ?_
        refine PW_ind (σ := pW) (mc - aN) (fun jj ss => I ss ∧ Fr (SQ b) w ss ∧ ss.2 b = .inr (1, [.ref (b + 1), .ref (b + 2), .ref (b + 19), .int (nI lc), .int (nI qc), .int (nI mc), .int (nI pc)])) (fun jj ss => (26, [(0, .ref b), (1, .int (nI aN)), (2, .ref u), (3, .int (nI (mc - jj)))], [], ss)) ?_ ?_ 0 w (by omega) ⟨hI, Fr.rf, eb⟩
        · rintro uj4 ⟨hIj4, hFj4, kj4_0⟩
          show PW _ _ _ _ _ _ (26, [(0, .ref b), (1, .int (nI aN)), (2, .ref u), (3, .int (nI (mc - (mc - aN))))], [], uj4)
          refine P_iload_n d_Plane_returnMap_26 rfl ?_
          refine P_iload_n d_Plane_returnMap_27 rfl ?_
          refine P_icmp_le 54 d_Plane_returnMap_28 (by decide) (fun _ => ?_) (fun h => absurd (nI_le (by omega) (by omega)) h)
          refine P_aload_n d_Plane_returnMap_54 rfl ?_
          refine P_aload_n d_Plane_returnMap_55 rfl ?_
          refine P_getf (i := 1) d_Plane_returnMap_56 ok_Plane (by decide) L_Plane_19 kj4_0 rfl ?_
          refine P_iload_n d_Plane_returnMap_59 rfl ?_
          refine P_aald (j := aN) (q := b + 2 + 1 + aN) d_Plane_returnMap_60 (hIj4.ms hb) rfl (ix_nI (by omega)) (by omega) (rows_at (by omega)) ?_
          obtain ⟨f5, f5e⟩ := hIj4.row (r := u) (by omega) hku
          obtain ⟨f6, f6e⟩ := hIj4.row (r := b + 2 + 1 + aN) (by omega) (Kc_m hb (by omega))
          refine P_callS (M := M_Plane_returnMap) (pc := 61) (as := [.ref u, .ref (b + 2 + 1 + aN)]) d_Plane_returnMap_61 co_Rows_copy L_Plane_39 sm_Rows_copy (s_Rows_copy_24_9 f5e f6e (by omega) (by omega)) rfl ⟨by decide, by decide⟩ ⟨by decide, by decide⟩ (by exact le_b rfl) ?_ _ rfl
          rintro _ w7 ⟨rfl, g7, e7⟩
          have s7 := w_s e7
          have hI7 : I w7 := hIj4.setL e7 (Kc_m hb (by omega))
          have hF7 : Fr (SQ b) w w7 := Fr.set hFj4 e7 (SQ_t (by omega))
          show PW _ _ _ _ _ _ (64, [(0, .ref b), (1, .int (nI aN)), (2, .ref u), (3, .int (nI (mc - (mc - aN))))], [], w7)
          refine P_aload_n d_Plane_returnMap_64 rfl ?_
          refine P_dup d_Plane_returnMap_65 rfl ?_
          refine P_getf (i := 5) d_Plane_returnMap_66 ok_Plane (by decide) L_Plane_33 ((w_n e7 _ (by omega)).trans kj4_0) rfl ?_
          refine P_iconst (v := 1) d_Plane_returnMap_69 (by decide) ?_
          refine P_iaddN (a := mc) (b := 1) d_Plane_returnMap_70 ?_
          show PW _ _ _ _ _ _ (71, [(0, .ref b), (1, .int (nI aN)), (2, .ref u), (3, .int (nI (mc - (mc - aN))))], [.int (nI (mc + 1)), .ref b], w7)
          refine P_putG (i := 5) d_Plane_returnMap_71 ok_Plane (by decide) rfl L_Plane_33 ((w_n e7 _ (by omega)).trans kj4_0) (fun _ => rfl) (fun _ => rfl) (fun w8 e8 s8 n8 z8 => ?_)
          have hI8 : I w8 := hI7.setP hb (show w8 = (_, wu _ b (plE b lc qc (mc + 1) pc)) from e8) (by omega) (by omega) (by omega) (by omega)
          have hF8 : Fr (SQ b) w w8 := Fr.set hF7 e8 (SQ_t (by omega))
          show PW _ _ _ _ _ _ (74, [(0, .ref b), (1, .int (nI aN)), (2, .ref u), (3, .int (nI (mc - (mc - aN))))], [], w8)
          exact P_vret d_Plane_returnMap_74 rfl (le_b rfl) (le_b rfl) ⟨rfl, hI8, hF8, (mc + 1), by omega, s8⟩
        · rintro j4 uj4 hj4 ⟨hIj4, hFj4, kj4_0⟩ kkj4
          show PW _ _ _ _ _ _ (26, [(0, .ref b), (1, .int (nI aN)), (2, .ref u), (3, .int (nI (mc - j4)))], [], uj4)
          refine P_iload_n d_Plane_returnMap_26 rfl ?_
          refine P_iload_n d_Plane_returnMap_27 rfl ?_
          refine P_icmp_le 54 d_Plane_returnMap_28 (by decide) (fun h => absurd h (fun h => by have := nI_let (a := mc - j4) (b := aN) (by omega) (by omega) h; omega)) (fun _ => ?_)
          refine P_aload_n d_Plane_returnMap_31 rfl ?_
          refine P_getf (i := 1) d_Plane_returnMap_32 ok_Plane (by decide) L_Plane_19 kj4_0 rfl ?_
          refine P_iload_n d_Plane_returnMap_35 rfl ?_
          refine P_iconst (v := 1) d_Plane_returnMap_36 (by decide) ?_
          refine P_isubN (a := (mc - j4)) (b := 1) d_Plane_returnMap_37 (by omega) ?_
          show PW _ _ _ _ _ _ (38, [(0, .ref b), (1, .int (nI aN)), (2, .ref u), (3, .int (nI (mc - j4)))], [.int (nI ((mc - j4) - 1)), .ref (b + 2)], uj4)
          refine P_aald (j := (mc - j4) - 1) (q := b + 2 + 1 + ((mc - j4) - 1)) d_Plane_returnMap_38 (hIj4.ms hb) rfl (ix_nI (by omega)) (by omega) (rows_at (by omega)) ?_
          refine P_aload_n d_Plane_returnMap_39 rfl ?_
          refine P_getf (i := 1) d_Plane_returnMap_40 ok_Plane (by decide) L_Plane_19 kj4_0 rfl ?_
          refine P_iload_n d_Plane_returnMap_43 rfl ?_
          refine P_aald (j := mc - j4) (q := b + 2 + 1 + (mc - j4)) d_Plane_returnMap_44 (hIj4.ms hb) rfl (ix_nI (by omega)) (by omega) (rows_at (by omega)) ?_
          obtain ⟨f9, f9e⟩ := hIj4.row (r := b + 2 + 1 + ((mc - j4) - 1)) (by omega) (Kc_m hb (by omega))
          obtain ⟨f10, f10e⟩ := hIj4.row (r := b + 2 + 1 + (mc - j4)) (by omega) (Kc_m hb (by omega))
          refine P_callS (M := M_Plane_returnMap) (pc := 45) (as := [.ref (b + 2 + 1 + ((mc - j4) - 1)), .ref (b + 2 + 1 + (mc - j4))]) d_Plane_returnMap_45 co_Rows_copy L_Plane_39 sm_Rows_copy (v_Rows_copy f9e f10e (by decide) (by omega)) rfl ⟨by decide, by decide⟩ ⟨by decide, by decide⟩ (by exact le_b rfl) ?_ _ rfl
          rintro _ w11 ⟨rfl, e11⟩
          have s11 := w_s e11
          generalize va_cpy _ _ _ _ _ = g12 at e11 s11
          have hI11 : I w11 := hIj4.setL e11 (Kc_m hb (by omega))
          have hF11 : Fr (SQ b) w w11 := Fr.set hFj4 e11 (SQ_t (by omega))
          show PW _ _ _ _ _ _ (48, [(0, .ref b), (1, .int (nI aN)), (2, .ref u), (3, .int (nI (mc - j4)))], [], w11)
          refine P_iinc (v := nI (mc - (j4 + 1))) d_Plane_returnMap_48 (by decide) rfl (nI_dn2 (by omega)) rfl ?_
          refine P_goto 26 d_Plane_returnMap_51 (by decide) ?_
          exact kkj4 w11 ⟨hI11, hF11, ((w_n e11 _ (by omega)).trans kj4_0)⟩
theorem s_Past_undoLatest {G : pG} {w : pW} (hG : GO G) (hI : I w) (hJ : J w) {b : Nat} (hb : b = 1 ∨ b = 77) (e0 : w.2 0 = cmE b) : PM G M_Past_undoLatest 3 0 0 [.ref 169, .ref b] w (fun r w' => r = none ∧ I w' ∧ Fr SA w w' ∧ J w' ∧ w'.2 0 = cmE b) := by
  refine PM_of pn_Past_undoLatest (le_b rfl) ?_
  show PW _ _ _ _ _ _ (0, [(0, .ref 169), (1, .ref b)], [], w)
  obtain ⟨hb1, hb2⟩ := pl_rng hb
  obtain ⟨lc, qc, mc, pc, eb, hlc, hqc, hmc, hpc⟩ := hI.pl hb
  obtain ⟨el, ct, he, hc, ep⟩ := hI.past
  obtain ⟨fd, ed⟩ := hI.ints (r := 170) (by decide) kc_170
  have hj := hJ b lc qc mc pc el ct fd e0 eb hpc ep he hc ed
  refine P_aload_n d_Past_undoLatest_0 rfl ?_
  refine P_getf (i := 4) d_Past_undoLatest_1 ok_Past (by decide) L_Past_23 ep rfl ?_
  refine P_if_ne 8 d_Past_undoLatest_4 (by decide) (fun c1 => ?_) (fun c1 => ?_)
  · have ic1 : ct ≠ 0 := fun q => c1 (congrArg nI q)
    refine P_aload_n d_Past_undoLatest_8 rfl ?_
    refine P_dup d_Past_undoLatest_9 rfl ?_
    refine P_getf (i := 4) d_Past_undoLatest_10 ok_Past (by decide) L_Past_23 ep rfl ?_
    refine P_iconst (v := 1) d_Past_undoLatest_13 (by decide) ?_
    refine P_isubN (a := ct) (b := 1) d_Past_undoLatest_14 (by omega) ?_
    show PW _ _ _ _ _ _ (15, [(0, .ref 169), (1, .ref b)], [.int (nI (ct - 1)), .ref 169], w)
    refine P_putG (i := 4) d_Past_undoLatest_15 ok_Past (by decide) rfl L_Past_23 ep (fun _ => rfl) (fun _ => rfl) (fun w2 e2 s2 n2 z2 => ?_)
    have hI2 : I w2 := hI.setPa  (show w2 = (_, wu _ 169 (paE el (ct - 1))) from e2) (by omega) (by omega)
    have hF2 : Fr SA w w2 := Fr.set Fr.rf e2 (SA_t (by omega))
    show PW _ _ _ _ _ _ (18, [(0, .ref 169), (1, .ref b)], [], w2)
    refine P_aload_n d_Past_undoLatest_18 rfl ?_
    refine P_getf (i := 3) d_Past_undoLatest_19 ok_Past (by decide) L_Past_43 s2 rfl ?_
    refine P_aload_n d_Past_undoLatest_22 rfl ?_
    refine P_getf (i := 4) d_Past_undoLatest_23 ok_Past (by decide) L_Past_23 s2 rfl ?_
    refine P_iaddN (a := el) (b := (ct - 1)) d_Past_undoLatest_26 ?_
    show PW _ _ _ _ _ _ (27, [(0, .ref 169), (1, .ref b)], [.int (nI (el + (ct - 1)))], w2)
    refine P_bipush (v := 16) d_Past_undoLatest_27 (by decide) ?_
    refine P_iremN (a := (el + (ct - 1))) (b := 16) d_Past_undoLatest_29 (by omega) (by omega) (by omega) ?_
    show PW _ _ _ _ _ _ (30, [(0, .ref 169), (1, .ref b)], [.int (nI ((el + (ct - 1)) % 16))], w2)
    refine P_istore_n d_Past_undoLatest_30 (by decide) rfl ?_
    refine P_aload_n d_Past_undoLatest_31 rfl ?_
    refine P_getf (i := 0) d_Past_undoLatest_32 ok_Past (by decide) L_Past_9 s2 rfl ?_
    refine P_iload_n d_Past_undoLatest_35 rfl ?_
    refine P_iald (j := (el + (ct - 1)) % 16) d_Past_undoLatest_36 ((w_n e2 _ (by decide)).trans ed) (ix_nI (by omega)) (by omega) ?_
    by_cases t3 : fd ((el + (ct - 1)) % 16) = 0
    · rw [t3]
      refine P_tswIn 64 d_Past_undoLatest_37 (by decide) (by decide) rfl (by decide) ?_
      refine P_aload_n d_Past_undoLatest_64 rfl ?_
      refine P_aload_n d_Past_undoLatest_65 rfl ?_
      refine P_getfN (i := 5) d_Past_undoLatest_66 ok_Plane (by decide) L_Past_46 ((w_n e2 _ (by omega)).trans eb) rfl ?_
      refine P_iconst (v := 1) d_Past_undoLatest_69 (by decide) ?_
      refine P_isub d_Past_undoLatest_70 ?_
      refine P_callV (M := M_Past_undoLatest) (pc := 71) (as := [.int ((nI mc) - 1)]) (b := b) d_Past_undoLatest_71 co_Plane_removeMap ok_Plane ((w_n e2 _ (by omega)).trans eb) L_Past_51 im_Plane_removeMap se_Plane_removeMap (s_Plane_removeMap hI2 hb ((w_n e2 _ (by omega)).trans eb) (by omega) (by omega) (by omega) (by omega) ((nI mc) - 1)) rfl ⟨by decide, by decide⟩ ⟨by decide, by decide⟩ (by exact le_b rfl) ?_ _ rfl
      rintro _ w4 ⟨rfl, hI4, hG4, m4, hm4, k4⟩
      have hF4 : Fr SA w w4 := Fr.tr hF2 (Fr.pb ⟨hb1, hb2⟩ hG4)
      show PW _ _ _ _ _ _ (74, [(0, .ref 169), (1, .ref b), (2, .int (nI ((el + (ct - 1)) % 16)))], [], w4)
      refine P_goto 143 d_Past_undoLatest_74 (by decide) ?_
      exact P_vret d_Past_undoLatest_143 rfl (le_b rfl) (le_b rfl) ⟨rfl, hI4, hF4, J.mk (b := b) ((hG4.2 _ (SQ_f (by omega))).trans ((w_n e2 _ (by decide)).trans e0)) k4 (by omega) ((hG4.2 _ (SQ_f (by omega))).trans s2) (by omega) (by omega) ((hG4.2 _ (SQ_f (by omega))).trans ((w_n e2 _ (by decide)).trans ed)) (by have := tolds_pop ic1 hj; omega), ((hG4.2 _ (SQ_f (by omega))).trans ((w_n e2 _ (by decide)).trans e0))⟩
    by_cases t5 : fd ((el + (ct - 1)) % 16) = 1
    · rw [t5]
      refine P_tswIn 77 d_Past_undoLatest_37 (by decide) (by decide) rfl (by decide) ?_
      refine P_aload_n d_Past_undoLatest_77 rfl ?_
      refine P_aload_n d_Past_undoLatest_78 rfl ?_
      refine P_getf (i := 1) d_Past_undoLatest_79 ok_Past (by decide) L_Past_15 s2 rfl ?_
      refine P_iload_n d_Past_undoLatest_82 rfl ?_
      obtain ⟨f6, f6e⟩ := hI2.ints (r := 171) (by decide) kc_171
      refine P_iald (j := (el + (ct - 1)) % 16) d_Past_undoLatest_83 f6e (ix_nI (by omega)) (by omega) ?_
      refine P_aload_n d_Past_undoLatest_84 rfl ?_
      refine P_getf (i := 2) d_Past_undoLatest_85 ok_Past (by decide) L_Past_20 s2 rfl ?_
      refine P_iload_n d_Past_undoLatest_88 rfl ?_
      refine P_aald (j := (el + (ct - 1)) % 16) (q := 172 + 1 + ((el + (ct - 1)) % 16)) d_Past_undoLatest_89 (hI2.rows (r := 172) (by decide) kc_172) rfl (ix_nI (by omega)) (by omega) (rows_at (by omega)) ?_
      refine P_callV (M := M_Past_undoLatest) (pc := 90) (as := [.int (f6 ((el + (ct - 1)) % 16)), .ref (172 + 1 + ((el + (ct - 1)) % 16))]) (b := b) d_Past_undoLatest_90 co_Plane_returnMap ok_Plane ((w_n e2 _ (by omega)).trans eb) L_Past_55 im_Plane_returnMap se_Plane_returnMap (s_Plane_returnMap hI2 hb ((w_n e2 _ (by omega)).trans eb) (by omega) (by omega) (by omega) (by omega) (f6 ((el + (ct - 1)) % 16)) (by omega) (Kc_pa (by omega)) (by omega)) rfl ⟨by decide, by decide⟩ ⟨by decide, by decide⟩ (by exact le_b rfl) ?_ _ rfl
      rintro _ w7 ⟨rfl, hI7, hG7, m7, hm7, k7⟩
      have hF7 : Fr SA w w7 := Fr.tr hF2 (Fr.pb ⟨hb1, hb2⟩ hG7)
      show PW _ _ _ _ _ _ (93, [(0, .ref 169), (1, .ref b), (2, .int (nI ((el + (ct - 1)) % 16)))], [], w7)
      refine P_goto 143 d_Past_undoLatest_93 (by decide) ?_
      exact P_vret d_Past_undoLatest_143 rfl (le_b rfl) (le_b rfl) ⟨rfl, hI7, hF7, J.mk (b := b) ((hG7.2 _ (SQ_f (by omega))).trans ((w_n e2 _ (by decide)).trans e0)) k7 (by omega) ((hG7.2 _ (SQ_f (by omega))).trans s2) (by omega) (by omega) ((hG7.2 _ (SQ_f (by omega))).trans ((w_n e2 _ (by decide)).trans ed)) (by have := tolds_pop ic1 hj; omega), ((hG7.2 _ (SQ_f (by omega))).trans ((w_n e2 _ (by decide)).trans e0))⟩
    by_cases t8 : fd ((el + (ct - 1)) % 16) = 2
    · rw [t8]
      refine P_tswIn 96 d_Past_undoLatest_37 (by decide) (by decide) rfl (by decide) ?_
      have hp1 := tolds_pos ic1 hj t8
      refine P_aload_n d_Past_undoLatest_96 rfl ?_
      refine P_dup d_Past_undoLatest_97 rfl ?_
      refine P_getfN (i := 6) d_Past_undoLatest_98 ok_Plane (by decide) L_Past_59 ((w_n e2 _ (by omega)).trans eb) rfl ?_
      refine P_iconst (v := 1) d_Past_undoLatest_101 (by decide) ?_
      refine P_isubN (a := pc) (b := 1) d_Past_undoLatest_102 (by omega) ?_
      show PW _ _ _ _ _ _ (103, [(0, .ref 169), (1, .ref b), (2, .int (nI ((el + (ct - 1)) % 16)))], [.int (nI (pc - 1)), .ref b], w2)
      refine P_putNG (i := 6) d_Past_undoLatest_103 ok_Plane (by decide) rfl L_Past_59 ((w_n e2 _ (by omega)).trans eb) (fun _ => rfl) (fun _ => rfl) (fun w9 e9 s9 n9 z9 => ?_)
      have hI9 : I w9 := hI2.setP hb (show w9 = (_, wu _ b (plE b lc qc mc (pc - 1))) from e9) (by omega) (by omega) (by omega) (by omega)
      have hF9 : Fr SA w w9 := Fr.set hF2 e9 (SA_t (by omega))
      show PW _ _ _ _ _ _ (106, [(0, .ref 169), (1, .ref b), (2, .int (nI ((el + (ct - 1)) % 16)))], [], w9)
      refine P_goto 143 d_Past_undoLatest_106 (by decide) ?_
      exact P_vret d_Past_undoLatest_143 rfl (le_b rfl) (le_b rfl) ⟨rfl, hI9, hF9, J.mk (b := b) ((w_n e9 _ (by omega)).trans ((w_n e2 _ (by decide)).trans e0)) s9 (by omega) ((w_n e9 _ (by omega)).trans s2) (by omega) (by omega) ((w_n e9 _ (by omega)).trans ((w_n e2 _ (by decide)).trans ed)) hp1.2, ((w_n e9 _ (by omega)).trans ((w_n e2 _ (by decide)).trans e0))⟩
    refine P_tswOut 109 d_Past_undoLatest_37 (by simp only [← Int32.toInt_inj, Int32.reduceToInt] at t3 t5 t8; omega) (by decide) ?_
    refine P_iconst (v := 0) d_Past_undoLatest_109 (by decide) ?_
    refine P_istore_n d_Past_undoLatest_110 (by decide) rfl ?_
    refine PW_ind (σ := pW) (8) (fun jj ss => I (ss) ∧ Fr SA w (ss) ∧ (ss).2 0 = .inr (8, [.ref b, .ref (78 - b), .ref 153, .ref 164, .ref 169, .ref 155, .ref 189, .ref 447, .ref 449, .ref 450, .ref 451, .ref 452, .ref 453, .ref 454, .ref 455, .ref 456, .ref 457, .ref 466]) ∧ (ss).2 b = .inr (1, [.ref (b + 1), .ref (b + 2), .ref (b + 19), .int (nI lc), .int (nI qc), .int (nI mc), .int (nI pc)]) ∧ (ss).2 169 = .inr (5, [.ref 170, .ref 171, .ref 172, .int (nI el), .int (nI (ct - 1))]) ∧ (ss).2 170 = .inl (0, 16, .inl fd)) (fun jj ss => (111, [(0, .ref 169), (1, .ref b), (2, .int (nI ((el + (ct - 1)) % 16))), (3, .int (nI jj))], [], ss)) ?_ ?_ 0 (w2) (by omega) ⟨hI2, hF2, ((w_n e2 _ (by decide)).trans e0), ((w_n e2 _ (by omega)).trans eb), s2, ((w_n e2 _ (by decide)).trans ed)⟩
    · rintro uj10 ⟨hIj10, hFj10, kj10_0, kj10_1, kj10_2, kj10_3⟩
      show PW _ _ _ _ _ _ (111, [(0, .ref 169), (1, .ref b), (2, .int (nI ((el + (ct - 1)) % 16))), (3, .int 8)], [], uj10)
      refine P_iload_n d_Past_undoLatest_111 rfl ?_
      refine P_bipush (v := 8) d_Past_undoLatest_112 (by decide) ?_
      refine P_icmp_ge 143 d_Past_undoLatest_114 (by decide) (fun _ => ?_) (fun h => absurd (by decide) h)
      exact P_vret d_Past_undoLatest_143 rfl (le_b rfl) (le_b rfl) ⟨rfl, hIj10, hFj10, J.mk (b := b) kj10_0 kj10_1 (by omega) kj10_2 (by omega) (by omega) kj10_3 (by have := tolds_pop ic1 hj; omega), kj10_0⟩
    · rintro j10 uj10 hj10 ⟨hIj10, hFj10, kj10_0, kj10_1, kj10_2, kj10_3⟩ kkj10
      show PW _ _ _ _ _ _ (111, [(0, .ref 169), (1, .ref b), (2, .int (nI ((el + (ct - 1)) % 16))), (3, .int (nI j10))], [], uj10)
      refine P_iload_n d_Past_undoLatest_111 rfl ?_
      refine P_bipush (v := 8) d_Past_undoLatest_112 (by decide) ?_
      refine P_icmp_ge 143 d_Past_undoLatest_114 (by decide) (fun h => absurd h (nI_geF (a := j10) (b := 8) (by omega) (by omega))) (fun _ => ?_)
      refine P_aload_n d_Past_undoLatest_117 rfl ?_
      refine P_getf (i := 2) d_Past_undoLatest_118 ok_Past (by decide) L_Past_20 kj10_2 rfl ?_
      refine P_iload_n d_Past_undoLatest_121 rfl ?_
      refine P_aald (j := (el + (ct - 1)) % 16) (q := 172 + 1 + ((el + (ct - 1)) % 16)) d_Past_undoLatest_122 (hIj10.rows (r := 172) (by decide) kc_172) rfl (ix_nI (by omega)) (by omega) (rows_at (by omega)) ?_
      refine P_iconst (v := 3) d_Past_undoLatest_123 (by decide) ?_
      refine P_iload_n d_Past_undoLatest_124 rfl ?_
      refine P_imulN (a := 3) (b := j10) d_Past_undoLatest_125 ?_
      show PW _ _ _ _ _ _ (126, [(0, .ref 169), (1, .ref b), (2, .int (nI ((el + (ct - 1)) % 16))), (3, .int (nI j10))], [.int (nI (3 * j10)), .ref (172 + 1 + ((el + (ct - 1)) % 16))], uj10)
      refine P_aload_n d_Past_undoLatest_126 rfl ?_
      refine P_getfN (i := 2) d_Past_undoLatest_127 ok_Plane (by decide) L_Past_62 kj10_1 rfl ?_
      refine P_iload_n d_Past_undoLatest_130 rfl ?_
      refine P_aald (j := j10) (q := b + 19 + 1 + j10) d_Past_undoLatest_131 (hIj10.ps hb) rfl (ix_nI (by omega)) (by omega) (rows_at (by omega)) ?_
      refine P_iconst (v := 0) d_Past_undoLatest_132 (by decide) ?_
      refine P_iconst (v := 3) d_Past_undoLatest_133 (by decide) ?_
      obtain ⟨f11, f11e⟩ := hIj10.row (r := 172 + 1 + ((el + (ct - 1)) % 16)) (by omega) (Kc_pa (by omega))
      obtain ⟨f12, f12e⟩ := hIj10.row (r := b + 19 + 1 + j10) (by omega) (Kc_p hb (by omega))
      refine P_copylG (i := 3 * j10) (j := 0) (q := 3) d_Past_undoLatest_134 L_Past_37 st_acopy.1 st_acopy.2.1 st_acopy.2.2 f11e f12e (by omega) (ix_nI (by omega)) ⟨by decide, by decide⟩ ⟨by decide, by decide⟩ (by omega) (by omega) ⟨by decide, by decide⟩ (by exact le_b rfl) (fun w13 e13 s13 n13 z13 => ?_)
      generalize va_cpy _ _ _ _ _ = g14 at e13 s13
      have hI13 : I w13 := hIj10.setL e13 (Kc_p hb (by omega))
      have hF13 : Fr SA w w13 := Fr.set hFj10 e13 (SA_t (by omega))
      show PW _ _ _ _ _ _ (137, [(0, .ref 169), (1, .ref b), (2, .int (nI ((el + (ct - 1)) % 16))), (3, .int (nI j10))], [], w13)
      refine P_iinc (v := nI (j10 + 1)) d_Past_undoLatest_137 (by decide) rfl (nI_add j10 1) rfl ?_
      refine P_goto 111 d_Past_undoLatest_140 (by decide) ?_
      exact kkj10 (w13) ⟨hI13, hF13, ((w_n e13 _ (by omega)).trans kj10_0), ((w_n e13 _ (by omega)).trans kj10_1), ((w_n e13 _ (by omega)).trans kj10_2), ((w_n e13 _ (by omega)).trans kj10_3)⟩
  · have ic1 : ct = 0 := (nI_eq (by omega) (by omega)).mp c1
    exact P_vret d_Past_undoLatest_7 rfl (le_b rfl) (le_b rfl) ⟨rfl, hI, Fr.rf, J.mk (b := b) e0 eb (by omega) ep (by omega) (by omega) ed hj, e0⟩
theorem s_CM_undo {G : pG} {w : pW} (hG : GO G) (hI : I w) (hJ : J w) : PM G M_CM_undo 4 0 0 [.ref 0] w (fun r w' => (∃ v, r = some (.int v)) ∧ I w' ∧ Fr SA w w' ∧ J w') := by
  refine PM_of pn_CM_undo (le_b rfl) ?_
  show PW _ _ _ _ _ _ (0, [(0, .ref 0)], [], w)
  obtain ⟨b, hb, e0⟩ := hI.cm
  obtain ⟨hb1, hb2⟩ := pl_rng hb
  obtain ⟨lc, qc, mc, pc, eb, hlc, hqc, hmc, hpc⟩ := hI.pl hb
  obtain ⟨el, ct, he, hc, ep⟩ := hI.past
  obtain ⟨fd, ed⟩ := hI.ints (r := 170) (by decide) kc_170
  have hj := hJ b lc qc mc pc el ct fd e0 eb hpc ep he hc ed
  refine P_aload_n d_CM_undo_0 rfl ?_
  refine P_getf (i := 4) d_CM_undo_1 ok_CM (by decide) L_CM_47 e0 rfl ?_
  refine P_getfN (i := 4) d_CM_undo_4 ok_Past (by decide) L_CM_260 ep rfl ?_
  refine P_if_ne 12 d_CM_undo_7 (by decide) (fun c1 => ?_) (fun c1 => ?_)
  · have ic1 : ct ≠ 0 := fun q => c1 (congrArg nI q)
    refine P_aload_n d_CM_undo_12 rfl ?_
    refine P_getf (i := 4) d_CM_undo_13 ok_CM (by decide) L_CM_47 e0 rfl ?_
    refine P_aload_n d_CM_undo_16 rfl ?_
    refine P_getf (i := 0) d_CM_undo_17 ok_CM (by decide) L_CM_12 e0 rfl ?_
    refine P_callV (M := M_CM_undo) (pc := 20) (as := [.ref b]) (b := 169) d_CM_undo_20 co_Past_undoLatest ok_Past ep L_CM_263 im_Past_undoLatest se_Past_undoLatest (s_Past_undoLatest hG hI hJ hb e0) rfl ⟨by decide, by decide⟩ ⟨by decide, by decide⟩ (by exact le_b rfl) ?_ _ rfl
    rintro _ w2 ⟨rfl, hI2, hG2, hJ2, kc0⟩
    obtain ⟨ul1, ul2, ul3, ul4, ul5⟩ := hI2.past
    show PW _ _ _ _ _ _ (23, [(0, .ref 0)], [], w2)
    refine P_aload_n d_CM_undo_23 rfl ?_
    refine P_getf (i := 4) d_CM_undo_24 ok_CM (by decide) L_CM_47 kc0 rfl ?_
    refine P_getfN (i := 4) d_CM_undo_27 ok_Past (by decide) L_CM_260 ul5 rfl ?_
    exact P_iret d_CM_undo_30 rfl (le_b rfl) (le_b rfl) ⟨⟨_, rfl⟩, hI2, Fr.tr Fr.rf hG2, hJ2⟩
  · have ic1 : ct = 0 := (nI_eq (by omega) (by omega)).mp c1
    refine P_iconst (v := (-1)) d_CM_undo_10 (by decide) ?_
    exact P_iret d_CM_undo_11 rfl (le_b rfl) (le_b rfl) ⟨⟨_, rfl⟩, hI, Fr.rf, J.mk (b := b) e0 eb (by omega) ep (by omega) (by omega) ed hj⟩
