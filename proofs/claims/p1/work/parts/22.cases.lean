/-! the law: what each case does (by program) -/
def QL (G : pG) : List Frame → Array Value → State → State → Prop := fun below args s t => ∀ b : Nat, args = #[Value.ref b] → s.heap.size ≤ g_b G → lw_Z below args s t
theorem mf_ge : ∀ q ∈ mfL, 467 ≤ q.1 := by decide
def lvE : List (Nat × Value) := [(0, .ref 1000000), (1, .ref 0), (2, .ref 467), (3, .ref 486), (4, .int 0)]
theorem law_0 {G : pG} {w : pW} {xs : Nat → Int32} (hl : (g_l G).stackTraces = false) (hC : Has cfL w.2) (hM : Has mfL w.2) (hs : w.2 1000000 = .inl (0, 6, .inl xs)) (hx : w.1 < 1000000) (hend : ∀ w' : pW, PW G M_Law_law room_1 (QL G) 500 12000 (3371, lvE, [], w')) : PW G M_Law_law room_1 (QL G) 487 11543 (344, lvE, [], w) := by
  refine P_aload_n d_Law_law_344 rfl ?_
  refine P_aload_n d_Law_law_345 rfl ?_
  refine P_iload d_Law_law_346 rfl ?_
  refine P_iconst (v := 1) d_Law_law_348 (by decide) ?_
  refine P_iadd d_Law_law_349 ?_
  refine P_iald (j := 1) d_Law_law_350 hs ⟨by decide, by decide⟩ (by decide) ?_
  refine P_aload_n d_Law_law_351 rfl ?_
  refine P_iload d_Law_law_352 rfl ?_
  refine P_iconst (v := 2) d_Law_law_354 (by decide) ?_
  refine P_iadd d_Law_law_355 ?_
  refine P_iald (j := 2) d_Law_law_356 hs ⟨by decide, by decide⟩ (by decide) ?_
  refine P_aload_n d_Law_law_357 rfl ?_
  refine P_iload d_Law_law_358 rfl ?_
  refine P_iconst (v := 3) d_Law_law_360 (by decide) ?_
  refine P_iadd d_Law_law_361 ?_
  refine P_iald (j := 3) d_Law_law_362 hs ⟨by decide, by decide⟩ (by decide) ?_
  refine P_aload_n d_Law_law_363 rfl ?_
  refine P_iload d_Law_law_364 rfl ?_
  refine P_iconst (v := 4) d_Law_law_366 (by decide) ?_
  refine P_iadd d_Law_law_367 ?_
  refine P_iald (j := 4) d_Law_law_368 hs ⟨by decide, by decide⟩ (by decide) ?_
  refine P_aload_n d_Law_law_369 rfl ?_
  refine P_iload d_Law_law_370 rfl ?_
  refine P_iconst (v := 5) d_Law_law_372 (by decide) ?_
  refine P_iadd d_Law_law_373 ?_
  refine P_iald (j := 5) d_Law_law_374 hs ⟨by decide, by decide⟩ (by decide) ?_
  refine P_callV (M := M_Law_law) (pc := 375) (as := [.int (xs 1), .int (xs 2), .int (xs 3), .int (xs 4), .int (xs 5)]) (b := 0) d_Law_law_375 co_CM_feed ok_CM (fa hC 28 rfl) L_Law_28 im_CM_feed se_CM_feed (z_CM_feed hC (xs 1) (xs 2) (xs 3) (xs 4) (xs 5)) rfl ⟨le_b rfl, le_b rfl⟩ ⟨le_b rfl, le_b rfl⟩ (by exact le_b rfl) ?_ _ rfl
  rintro _ w1 ⟨rfl, z1, n1⟩
  have hM1 : Has mfL w1.2 := fun q hq => (n1 q.1 (mf_ge q hq)).trans (hM q hq)
  have hs1 : w1.2 1000000 = .inl (0, 6, .inl xs) := (n1 1000000 (le_b rfl)).trans hs
  show PW _ _ _ _ _ _ (378, [(0, .ref 1000000), (1, .ref 0), (2, .ref 467), (3, .ref 486), (4, .int 0)], [.int 20], w1)
  refine P_aload_n d_Law_law_378 rfl ?_
  refine P_aload_n d_Law_law_379 rfl ?_
  refine P_iload d_Law_law_380 rfl ?_
  refine P_iconst (v := 1) d_Law_law_382 (by decide) ?_
  refine P_iadd d_Law_law_383 ?_
  refine P_iald (j := 1) d_Law_law_384 hs1 ⟨by decide, by decide⟩ (by decide) ?_
  refine P_aload_n d_Law_law_385 rfl ?_
  refine P_iload d_Law_law_386 rfl ?_
  refine P_iconst (v := 2) d_Law_law_388 (by decide) ?_
  refine P_iadd d_Law_law_389 ?_
  refine P_iald (j := 2) d_Law_law_390 hs1 ⟨by decide, by decide⟩ (by decide) ?_
  refine P_aload_n d_Law_law_391 rfl ?_
  refine P_iload d_Law_law_392 rfl ?_
  refine P_iconst (v := 3) d_Law_law_394 (by decide) ?_
  refine P_iadd d_Law_law_395 ?_
  refine P_iald (j := 3) d_Law_law_396 hs1 ⟨by decide, by decide⟩ (by decide) ?_
  refine P_aload_n d_Law_law_397 rfl ?_
  refine P_iload d_Law_law_398 rfl ?_
  refine P_iconst (v := 4) d_Law_law_400 (by decide) ?_
  refine P_iadd d_Law_law_401 ?_
  refine P_iald (j := 4) d_Law_law_402 hs1 ⟨by decide, by decide⟩ (by decide) ?_
  refine P_aload_n d_Law_law_403 rfl ?_
  refine P_iload d_Law_law_404 rfl ?_
  refine P_iconst (v := 5) d_Law_law_406 (by decide) ?_
  refine P_iadd d_Law_law_407 ?_
  refine P_iald (j := 5) d_Law_law_408 hs1 ⟨by decide, by decide⟩ (by decide) ?_
  refine P_callV (M := M_Law_law) (pc := 409) (as := [.int (xs 1), .int (xs 2), .int (xs 3), .int (xs 4), .int (xs 5)]) (b := 467) d_Law_law_409 co_MD_feed ok_Model (fa hM1 18 rfl) L_Law_32 im_MD_feed se_MD_feed (z_MD_feed hM1 (xs 1) (xs 2) (xs 3) (xs 4) (xs 5)) rfl ⟨le_b rfl, le_b rfl⟩ ⟨le_b rfl, le_b rfl⟩ (by exact le_b rfl) ?_ _ rfl
  rintro _ w2 ⟨rfl, _⟩
  show PW _ _ _ _ _ _ (412, [(0, .ref 1000000), (1, .ref 0), (2, .ref 467), (3, .ref 486), (4, .int 0)], [.int 20, .int 20], w2)
  refine P_icmp_eq 3371 d_Law_law_412 (by decide) (fun _ => ?_) (fun h => absurd (by decide) h)
  show PW _ _ _ _ _ _ (3371, [(0, .ref 1000000), (1, .ref 0), (2, .ref 467), (3, .ref 486), (4, .int 0)], [], _)
  refine PW.wide (k' := 500) (n' := 12000) (le_b rfl) (le_b rfl) ?_
  exact PW.drop (lv' := lvE) (fun q hq => by simp only [lvE, List.mem_cons, List.not_mem_nil, or_false] at hq; rcases hq with rfl | rfl | rfl | rfl | rfl <;> simp [lvE]) (hend _)
theorem law_1 {G : pG} {w : pW} {xs : Nat → Int32} (hl : (g_l G).stackTraces = false) (hC : Has cfL w.2) (hM : Has mfL w.2) (hs : w.2 1000000 = .inl (0, 6, .inl xs)) (hx : w.1 < 1000000) (hend : ∀ w' : pW, PW G M_Law_law room_1 (QL G) 500 12000 (3371, lvE, [], w')) : PW G M_Law_law room_1 (QL G) 487 11543 (417, lvE, [], w) := by
  refine P_aload_n d_Law_law_417 rfl ?_
  refine P_aload_n d_Law_law_418 rfl ?_
  refine P_iload d_Law_law_419 rfl ?_
  refine P_iconst (v := 1) d_Law_law_421 (by decide) ?_
  refine P_iadd d_Law_law_422 ?_
  refine P_iald (j := 1) d_Law_law_423 hs ⟨by decide, by decide⟩ (by decide) ?_
  refine P_callV (M := M_Law_law) (pc := 424) (as := [.int (xs 1)]) (b := 0) d_Law_law_424 co_CM_text ok_CM (fa hC 28 rfl) L_Law_33 im_CM_text se_CM_text (z_CM_text hC (xs 1)) rfl ⟨le_b rfl, le_b rfl⟩ ⟨le_b rfl, le_b rfl⟩ (by exact le_b rfl) ?_ _ rfl
  rintro _ w1 ⟨rfl, z1, n1⟩
  have hM1 : Has mfL w1.2 := fun q hq => (n1 q.1 (mf_ge q hq)).trans (hM q hq)
  have hs1 : w1.2 1000000 = .inl (0, 6, .inl xs) := (n1 1000000 (le_b rfl)).trans hs
  show PW _ _ _ _ _ _ (427, [(0, .ref 1000000), (1, .ref 0), (2, .ref 467), (3, .ref 486), (4, .int 0)], [.int (ff 0 0 0 (-2) (xs 1))], w1)
  refine P_aload_n d_Law_law_427 rfl ?_
  refine P_aload_n d_Law_law_428 rfl ?_
  refine P_iload d_Law_law_429 rfl ?_
  refine P_iconst (v := 1) d_Law_law_431 (by decide) ?_
  refine P_iadd d_Law_law_432 ?_
  refine P_iald (j := 1) d_Law_law_433 hs1 ⟨by decide, by decide⟩ (by decide) ?_
  refine P_callV (M := M_Law_law) (pc := 434) (as := [.int (xs 1)]) (b := 467) d_Law_law_434 co_MD_text ok_Model (fa hM1 18 rfl) L_Law_37 im_MD_text se_MD_text (z_MD_text hM1 (xs 1)) rfl ⟨le_b rfl, le_b rfl⟩ ⟨le_b rfl, le_b rfl⟩ (by exact le_b rfl) ?_ _ rfl
  rintro _ w2 ⟨rfl, _⟩
  show PW _ _ _ _ _ _ (437, [(0, .ref 1000000), (1, .ref 0), (2, .ref 467), (3, .ref 486), (4, .int 0)], [.int (ff 0 0 0 (-2) (xs 1)), .int (ff 0 0 0 (-2) (xs 1))], w2)
  refine P_icmp_eq 3371 d_Law_law_437 (by decide) (fun _ => ?_) (fun h => absurd rfl h)
  show PW _ _ _ _ _ _ (3371, [(0, .ref 1000000), (1, .ref 0), (2, .ref 467), (3, .ref 486), (4, .int 0)], [], _)
  refine PW.wide (k' := 500) (n' := 12000) (le_b rfl) (le_b rfl) ?_
  exact PW.drop (lv' := lvE) (fun q hq => by simp only [lvE, List.mem_cons, List.not_mem_nil, or_false] at hq; rcases hq with rfl | rfl | rfl | rfl | rfl <;> simp [lvE]) (hend _)
theorem law_2 {G : pG} {w : pW} {xs : Nat → Int32} (hl : (g_l G).stackTraces = false) (hC : Has cfL w.2) (hM : Has mfL w.2) (hs : w.2 1000000 = .inl (0, 6, .inl xs)) (hx : w.1 < 1000000) (hend : ∀ w' : pW, PW G M_Law_law room_1 (QL G) 500 12000 (3371, lvE, [], w')) : PW G M_Law_law room_1 (QL G) 487 11543 (442, lvE, [], w) := by
  refine P_aload_n d_Law_law_442 rfl ?_
  refine P_aload_n d_Law_law_443 rfl ?_
  refine P_iload d_Law_law_444 rfl ?_
  refine P_iconst (v := 1) d_Law_law_446 (by decide) ?_
  refine P_iadd d_Law_law_447 ?_
  refine P_iald (j := 1) d_Law_law_448 hs ⟨by decide, by decide⟩ (by decide) ?_
  refine P_callV (M := M_Law_law) (pc := 449) (as := [.int (xs 1)]) (b := 0) d_Law_law_449 co_CM_fault ok_CM (fa hC 28 rfl) L_Law_38 im_CM_fault se_CM_fault (z_CM_fault hC (xs 1)) rfl ⟨by decide, by decide⟩ ⟨by decide, by decide⟩ (by exact le_b rfl) ?_ _ rfl
  rintro _ _ ⟨rfl, rfl⟩
  show PW _ _ _ _ _ _ (452, _, [.int (ff 0 0 0 (-1) (xs 1))], _)
  refine P_aload_n d_Law_law_452 rfl ?_
  refine P_aload_n d_Law_law_453 rfl ?_
  refine P_iload d_Law_law_454 rfl ?_
  refine P_iconst (v := 1) d_Law_law_456 (by decide) ?_
  refine P_iadd d_Law_law_457 ?_
  refine P_iald (j := 1) d_Law_law_458 hs ⟨by decide, by decide⟩ (by decide) ?_
  refine P_callV (M := M_Law_law) (pc := 459) (as := [.int (xs 1)]) (b := 467) d_Law_law_459 co_MD_fault ok_Model (fa hM 18 rfl) L_Law_41 im_MD_fault se_MD_fault (z_MD_fault hM (xs 1)) rfl ⟨by decide, by decide⟩ ⟨by decide, by decide⟩ (by exact le_b rfl) ?_ _ rfl
  rintro _ _ ⟨rfl, rfl⟩
  show PW _ _ _ _ _ _ (462, _, [.int (ff 0 0 0 (-1) (xs 1)), .int (ff 0 0 0 (-1) (xs 1))], _)
  refine P_icmp_eq 3371 d_Law_law_462 (by decide) (fun _ => ?_) (fun h => absurd rfl h)
  show PW _ _ _ _ _ _ (3371, [(0, .ref 1000000), (1, .ref 0), (2, .ref 467), (3, .ref 486), (4, .int 0)], [], _)
  refine PW.wide (k' := 500) (n' := 12000) (le_b rfl) (le_b rfl) ?_
  exact PW.drop (lv' := lvE) (fun q hq => by simp only [lvE, List.mem_cons, List.not_mem_nil, or_false] at hq; rcases hq with rfl | rfl | rfl | rfl | rfl <;> simp [lvE]) (hend _)
theorem law_3 {G : pG} {w : pW} {xs : Nat → Int32} (hl : (g_l G).stackTraces = false) (hC : Has cfL w.2) (hM : Has mfL w.2) (hs : w.2 1000000 = .inl (0, 6, .inl xs)) (hx : w.1 < 1000000) (hend : ∀ w' : pW, PW G M_Law_law room_1 (QL G) 500 12000 (3371, lvE, [], w')) : PW G M_Law_law room_1 (QL G) 487 11543 (467, lvE, [], w) := by
  refine P_aload_n d_Law_law_467 rfl ?_
  refine P_aload_n d_Law_law_468 rfl ?_
  refine P_iload d_Law_law_469 rfl ?_
  refine P_iconst (v := 1) d_Law_law_471 (by decide) ?_
  refine P_iadd d_Law_law_472 ?_
  refine P_iald (j := 1) d_Law_law_473 hs ⟨by decide, by decide⟩ (by decide) ?_
  refine P_aload_n d_Law_law_474 rfl ?_
  refine P_iload d_Law_law_475 rfl ?_
  refine P_iconst (v := 2) d_Law_law_477 (by decide) ?_
  refine P_iadd d_Law_law_478 ?_
  refine P_iald (j := 2) d_Law_law_479 hs ⟨by decide, by decide⟩ (by decide) ?_
  refine P_aload_n d_Law_law_480 rfl ?_
  refine P_iload d_Law_law_481 rfl ?_
  refine P_iconst (v := 3) d_Law_law_483 (by decide) ?_
  refine P_iadd d_Law_law_484 ?_
  refine P_iald (j := 3) d_Law_law_485 hs ⟨by decide, by decide⟩ (by decide) ?_
  refine P_aload_n d_Law_law_486 rfl ?_
  refine P_callSW (M := M_Law_law) (pc := 487) (as := [.ref 0, .int (xs 1), .int (xs 2), .int (xs 3), .ref 486]) d_Law_law_487 cw_Law_corner in_Law dd_Law_corner L_Law_42 sm_Law_corner (z_Law_corner hl hC hx (xs 1) (xs 2) (xs 3) 486) rfl ⟨le_b rfl, le_b rfl⟩ ⟨le_b rfl, le_b rfl⟩ (le_b rfl) ?_ _ rfl
  rintro _ _ ⟨rfl, rfl⟩
  show PW _ _ _ _ _ _ (490, _, [.int 1], (w.1 + 1, w.2))
  refine P_istore d_Law_law_490 (by decide) rfl ?_
  refine P_aload_n d_Law_law_492 rfl ?_
  refine P_aload_n d_Law_law_493 rfl ?_
  refine P_iload d_Law_law_494 rfl ?_
  refine P_iconst (v := 1) d_Law_law_496 (by decide) ?_
  refine P_iadd d_Law_law_497 ?_
  refine P_iald (j := 1) d_Law_law_498 hs ⟨by decide, by decide⟩ (by decide) ?_
  refine P_aload_n d_Law_law_499 rfl ?_
  refine P_iload d_Law_law_500 rfl ?_
  refine P_iconst (v := 2) d_Law_law_502 (by decide) ?_
  refine P_iadd d_Law_law_503 ?_
  refine P_iald (j := 2) d_Law_law_504 hs ⟨by decide, by decide⟩ (by decide) ?_
  refine P_aload_n d_Law_law_505 rfl ?_
  refine P_iload d_Law_law_506 rfl ?_
  refine P_iconst (v := 3) d_Law_law_508 (by decide) ?_
  refine P_iadd d_Law_law_509 ?_
  refine P_iald (j := 3) d_Law_law_510 hs ⟨by decide, by decide⟩ (by decide) ?_
  refine P_callV (M := M_Law_law) (pc := 511) (as := [.int (xs 1), .int (xs 2), .int (xs 3)]) (b := 467) (w := (w.1 + 1, w.2)) d_Law_law_511 co_MD_corner ok_Model (fa hM 18 rfl) L_Law_47 im_MD_corner se_MD_corner (z_MD_corner (w := (w.1 + 1, w.2)) hM (xs 1) (xs 2) (xs 3)) rfl ⟨by decide, by decide⟩ ⟨by decide, by decide⟩ (by exact le_b rfl) ?_ _ rfl
  rintro _ _ ⟨rfl, rfl⟩
  show PW _ _ _ _ _ _ (514, _, [.int 0], (w.1 + 1, wu w.2 467 (.inr (9, mf1))))
  refine P_istore d_Law_law_514 (by decide) rfl ?_
  refine P_aload_n d_Law_law_516 rfl ?_
  refine P_callV (M := M_Law_law) (pc := 517) (as := []) (b := 467) (w := (w.1 + 1, wu w.2 467 (.inr (9, mf1)))) d_Law_law_517 co_MD_thrown ok_Model (wu_s w.2 467 (.inr (9, mf1))) L_Law_48 im_MD_thrown se_MD_thrown (z_MD_thrown (w := (w.1 + 1, wu w.2 467 (.inr (9, mf1)))) (fs := mf1) 1 (wu_s w.2 467 (.inr (9, mf1))) rfl) rfl ⟨by decide, by decide⟩ ⟨by decide, by decide⟩ (by exact le_b rfl) ?_ _ rfl
  rintro _ _ ⟨rfl, rfl⟩
  show PW _ _ _ _ _ _ (520, _, [.int 1], (w.1 + 1, wu w.2 467 (.inr (9, mf1))))
  refine P_iload d_Law_law_520 rfl ?_
  refine P_icmp_eq 527 d_Law_law_522 (by decide) (fun _ => ?_) (fun h => absurd (by decide) h)
  refine P_iload d_Law_law_527 rfl ?_
  refine P_if_ne 544 d_Law_law_529 (by decide) (fun _ => ?_) (fun h => absurd h (by decide))
  refine P_goto 3371 d_Law_law_544 (by decide) ?_
  show PW _ _ _ _ _ _ (3371, [(0, .ref 1000000), (1, .ref 0), (2, .ref 467), (3, .ref 486), (4, .int 0), (5, .int 1), (6, .int 0)], [], _)
  refine PW.wide (k' := 500) (n' := 12000) (le_b rfl) (le_b rfl) ?_
  exact PW.drop (lv' := lvE) (fun q hq => by simp only [lvE, List.mem_cons, List.not_mem_nil, or_false] at hq; rcases hq with rfl | rfl | rfl | rfl | rfl <;> simp [lvE]) (hend _)
theorem law_4 {G : pG} {w : pW} {xs : Nat → Int32} (hl : (g_l G).stackTraces = false) (hC : Has cfL w.2) (hM : Has mfL w.2) (hs : w.2 1000000 = .inl (0, 6, .inl xs)) (hx : w.1 < 1000000) (hend : ∀ w' : pW, PW G M_Law_law room_1 (QL G) 500 12000 (3371, lvE, [], w')) : PW G M_Law_law room_1 (QL G) 487 11543 (547, lvE, [], w) := by
  refine P_aload_n d_Law_law_547 rfl ?_
  refine P_aload_n d_Law_law_548 rfl ?_
  refine P_iload d_Law_law_549 rfl ?_
  refine P_iconst (v := 1) d_Law_law_551 (by decide) ?_
  refine P_iadd d_Law_law_552 ?_
  refine P_iald (j := 1) d_Law_law_553 hs ⟨by decide, by decide⟩ (by decide) ?_
  refine P_aload_n d_Law_law_554 rfl ?_
  refine P_iload d_Law_law_555 rfl ?_
  refine P_iconst (v := 2) d_Law_law_557 (by decide) ?_
  refine P_iadd d_Law_law_558 ?_
  refine P_iald (j := 2) d_Law_law_559 hs ⟨by decide, by decide⟩ (by decide) ?_
  refine P_aload_n d_Law_law_560 rfl ?_
  refine P_iload d_Law_law_561 rfl ?_
  refine P_iconst (v := 3) d_Law_law_563 (by decide) ?_
  refine P_iadd d_Law_law_564 ?_
  refine P_iald (j := 3) d_Law_law_565 hs ⟨by decide, by decide⟩ (by decide) ?_
  refine P_aload_n d_Law_law_566 rfl ?_
  refine P_callSW (M := M_Law_law) (pc := 567) (as := [.ref 0, .int (xs 1), .int (xs 2), .int (xs 3), .ref 486]) d_Law_law_567 cw_Law_map in_Law dd_Law_map L_Law_52 sm_Law_map (z_Law_map hl hC hx (xs 1) (xs 2) (xs 3) 486) rfl ⟨le_b rfl, le_b rfl⟩ ⟨le_b rfl, le_b rfl⟩ (le_b rfl) ?_ _ rfl
  rintro _ _ ⟨rfl, rfl⟩
  show PW _ _ _ _ _ _ (570, _, [.int 1], (w.1 + 1, w.2))
  refine P_istore d_Law_law_570 (by decide) rfl ?_
  refine P_aload_n d_Law_law_572 rfl ?_
  refine P_aload_n d_Law_law_573 rfl ?_
  refine P_iload d_Law_law_574 rfl ?_
  refine P_iconst (v := 1) d_Law_law_576 (by decide) ?_
  refine P_iadd d_Law_law_577 ?_
  refine P_iald (j := 1) d_Law_law_578 hs ⟨by decide, by decide⟩ (by decide) ?_
  refine P_aload_n d_Law_law_579 rfl ?_
  refine P_iload d_Law_law_580 rfl ?_
  refine P_iconst (v := 2) d_Law_law_582 (by decide) ?_
  refine P_iadd d_Law_law_583 ?_
  refine P_iald (j := 2) d_Law_law_584 hs ⟨by decide, by decide⟩ (by decide) ?_
  refine P_aload_n d_Law_law_585 rfl ?_
  refine P_iload d_Law_law_586 rfl ?_
  refine P_iconst (v := 3) d_Law_law_588 (by decide) ?_
  refine P_iadd d_Law_law_589 ?_
  refine P_iald (j := 3) d_Law_law_590 hs ⟨by decide, by decide⟩ (by decide) ?_
  refine P_callV (M := M_Law_law) (pc := 591) (as := [.int (xs 1), .int (xs 2), .int (xs 3)]) (b := 467) (w := (w.1 + 1, w.2)) d_Law_law_591 co_MD_map ok_Model (fa hM 18 rfl) L_Law_54 im_MD_map se_MD_map (z_MD_map (w := (w.1 + 1, w.2)) hM (xs 1) (xs 2) (xs 3)) rfl ⟨by decide, by decide⟩ ⟨by decide, by decide⟩ (by exact le_b rfl) ?_ _ rfl
  rintro _ _ ⟨rfl, rfl⟩
  show PW _ _ _ _ _ _ (594, _, [.int 0], (w.1 + 1, wu w.2 467 (.inr (9, mf1))))
  refine P_istore d_Law_law_594 (by decide) rfl ?_
  refine P_aload_n d_Law_law_596 rfl ?_
  refine P_callV (M := M_Law_law) (pc := 597) (as := []) (b := 467) (w := (w.1 + 1, wu w.2 467 (.inr (9, mf1)))) d_Law_law_597 co_MD_thrown ok_Model (wu_s w.2 467 (.inr (9, mf1))) L_Law_48 im_MD_thrown se_MD_thrown (z_MD_thrown (w := (w.1 + 1, wu w.2 467 (.inr (9, mf1)))) (fs := mf1) 1 (wu_s w.2 467 (.inr (9, mf1))) rfl) rfl ⟨by decide, by decide⟩ ⟨by decide, by decide⟩ (by exact le_b rfl) ?_ _ rfl
  rintro _ _ ⟨rfl, rfl⟩
  show PW _ _ _ _ _ _ (600, _, [.int 1], (w.1 + 1, wu w.2 467 (.inr (9, mf1))))
  refine P_iload d_Law_law_600 rfl ?_
  refine P_icmp_eq 607 d_Law_law_602 (by decide) (fun _ => ?_) (fun h => absurd (by decide) h)
  refine P_iload d_Law_law_607 rfl ?_
  refine P_if_ne 624 d_Law_law_609 (by decide) (fun _ => ?_) (fun h => absurd h (by decide))
  refine P_goto 3371 d_Law_law_624 (by decide) ?_
  show PW _ _ _ _ _ _ (3371, [(0, .ref 1000000), (1, .ref 0), (2, .ref 467), (3, .ref 486), (4, .int 0), (5, .int 1), (6, .int 0)], [], _)
  refine PW.wide (k' := 500) (n' := 12000) (le_b rfl) (le_b rfl) ?_
  exact PW.drop (lv' := lvE) (fun q hq => by simp only [lvE, List.mem_cons, List.not_mem_nil, or_false] at hq; rcases hq with rfl | rfl | rfl | rfl | rfl <;> simp [lvE]) (hend _)
theorem law_5 {G : pG} {w : pW} {xs : Nat → Int32} (hl : (g_l G).stackTraces = false) (hC : Has cfL w.2) (hM : Has mfL w.2) (hs : w.2 1000000 = .inl (0, 6, .inl xs)) (hx : w.1 < 1000000) (hend : ∀ w' : pW, PW G M_Law_law room_1 (QL G) 500 12000 (3371, lvE, [], w')) : PW G M_Law_law room_1 (QL G) 487 11543 (627, lvE, [], w) := by
  refine P_aload_n d_Law_law_627 rfl ?_
  refine P_aload_n d_Law_law_628 rfl ?_
  refine P_iload d_Law_law_629 rfl ?_
  refine P_iconst (v := 1) d_Law_law_631 (by decide) ?_
  refine P_iadd d_Law_law_632 ?_
  refine P_iald (j := 1) d_Law_law_633 hs ⟨by decide, by decide⟩ (by decide) ?_
  refine P_aload_n d_Law_law_634 rfl ?_
  refine P_iload d_Law_law_635 rfl ?_
  refine P_iconst (v := 2) d_Law_law_637 (by decide) ?_
  refine P_iadd d_Law_law_638 ?_
  refine P_iald (j := 2) d_Law_law_639 hs ⟨by decide, by decide⟩ (by decide) ?_
  refine P_aload_n d_Law_law_640 rfl ?_
  refine P_callSW (M := M_Law_law) (pc := 641) (as := [.ref 0, .int (xs 1), .int (xs 2), .ref 486]) d_Law_law_641 cw_Law_point in_Law dd_Law_point L_Law_55 sm_Law_point (z_Law_point hl hC hx (xs 1) (xs 2) 486) rfl ⟨le_b rfl, le_b rfl⟩ ⟨le_b rfl, le_b rfl⟩ (le_b rfl) ?_ _ rfl
  rintro _ _ ⟨rfl, rfl⟩
  show PW _ _ _ _ _ _ (644, _, [.int 1], (w.1 + 1, w.2))
  refine P_istore d_Law_law_644 (by decide) rfl ?_
  refine P_aload_n d_Law_law_646 rfl ?_
  refine P_aload_n d_Law_law_647 rfl ?_
  refine P_iload d_Law_law_648 rfl ?_
  refine P_iconst (v := 1) d_Law_law_650 (by decide) ?_
  refine P_iadd d_Law_law_651 ?_
  refine P_iald (j := 1) d_Law_law_652 hs ⟨by decide, by decide⟩ (by decide) ?_
  refine P_aload_n d_Law_law_653 rfl ?_
  refine P_iload d_Law_law_654 rfl ?_
  refine P_iconst (v := 2) d_Law_law_656 (by decide) ?_
  refine P_iadd d_Law_law_657 ?_
  refine P_iald (j := 2) d_Law_law_658 hs ⟨by decide, by decide⟩ (by decide) ?_
  refine P_callV (M := M_Law_law) (pc := 659) (as := [.int (xs 1), .int (xs 2)]) (b := 467) (w := (w.1 + 1, w.2)) d_Law_law_659 co_MD_point ok_Model (fa hM 18 rfl) L_Law_58 im_MD_point se_MD_point (z_MD_point (w := (w.1 + 1, w.2)) hM (xs 1) (xs 2)) rfl ⟨by decide, by decide⟩ ⟨by decide, by decide⟩ (by exact le_b rfl) ?_ _ rfl
  rintro _ _ ⟨rfl, rfl⟩
  show PW _ _ _ _ _ _ (662, _, [.int 0], (w.1 + 1, wu w.2 467 (.inr (9, mf1))))
  refine P_istore d_Law_law_662 (by decide) rfl ?_
  refine P_aload_n d_Law_law_664 rfl ?_
  refine P_callV (M := M_Law_law) (pc := 665) (as := []) (b := 467) (w := (w.1 + 1, wu w.2 467 (.inr (9, mf1)))) d_Law_law_665 co_MD_thrown ok_Model (wu_s w.2 467 (.inr (9, mf1))) L_Law_48 im_MD_thrown se_MD_thrown (z_MD_thrown (w := (w.1 + 1, wu w.2 467 (.inr (9, mf1)))) (fs := mf1) 1 (wu_s w.2 467 (.inr (9, mf1))) rfl) rfl ⟨by decide, by decide⟩ ⟨by decide, by decide⟩ (by exact le_b rfl) ?_ _ rfl
  rintro _ _ ⟨rfl, rfl⟩
  show PW _ _ _ _ _ _ (668, _, [.int 1], (w.1 + 1, wu w.2 467 (.inr (9, mf1))))
  refine P_iload d_Law_law_668 rfl ?_
  refine P_icmp_eq 675 d_Law_law_670 (by decide) (fun _ => ?_) (fun h => absurd (by decide) h)
  refine P_iload d_Law_law_675 rfl ?_
  refine P_if_ne 692 d_Law_law_677 (by decide) (fun _ => ?_) (fun h => absurd h (by decide))
  refine P_goto 3371 d_Law_law_692 (by decide) ?_
  show PW _ _ _ _ _ _ (3371, [(0, .ref 1000000), (1, .ref 0), (2, .ref 467), (3, .ref 486), (4, .int 0), (5, .int 1), (6, .int 0)], [], _)
  refine PW.wide (k' := 500) (n' := 12000) (le_b rfl) (le_b rfl) ?_
  exact PW.drop (lv' := lvE) (fun q hq => by simp only [lvE, List.mem_cons, List.not_mem_nil, or_false] at hq; rcases hq with rfl | rfl | rfl | rfl | rfl <;> simp [lvE]) (hend _)
theorem law_6 {G : pG} {w : pW} {xs : Nat → Int32} (hl : (g_l G).stackTraces = false) (hC : Has cfL w.2) (hM : Has mfL w.2) (hs : w.2 1000000 = .inl (0, 6, .inl xs)) (hx : w.1 < 1000000) (hend : ∀ w' : pW, PW G M_Law_law room_1 (QL G) 500 12000 (3371, lvE, [], w')) : PW G M_Law_law room_1 (QL G) 487 11543 (695, lvE, [], w) := by
  refine P_aload_n d_Law_law_695 rfl ?_
  refine P_aload_n d_Law_law_696 rfl ?_
  refine P_iload d_Law_law_697 rfl ?_
  refine P_iconst (v := 1) d_Law_law_699 (by decide) ?_
  refine P_iadd d_Law_law_700 ?_
  refine P_iald (j := 1) d_Law_law_701 hs ⟨by decide, by decide⟩ (by decide) ?_
  refine P_callV (M := M_Law_law) (pc := 702) (as := [.int (xs 1)]) (b := 0) d_Law_law_702 co_CM_shape ok_CM (fa hC 28 rfl) L_Law_59 im_CM_shape se_CM_shape (z_CM_shape hC (xs 1)) rfl ⟨by decide, by decide⟩ ⟨by decide, by decide⟩ (by exact le_b rfl) ?_ _ rfl
  rintro _ _ ⟨rfl, rfl⟩
  show PW _ _ _ _ _ _ (705, _, [.int (-1)], _)
  refine P_aload_n d_Law_law_705 rfl ?_
  refine P_aload_n d_Law_law_706 rfl ?_
  refine P_iload d_Law_law_707 rfl ?_
  refine P_iconst (v := 1) d_Law_law_709 (by decide) ?_
  refine P_iadd d_Law_law_710 ?_
  refine P_iald (j := 1) d_Law_law_711 hs ⟨by decide, by decide⟩ (by decide) ?_
  refine P_callV (M := M_Law_law) (pc := 712) (as := [.int (xs 1)]) (b := 467) d_Law_law_712 co_MD_shape ok_Model (fa hM 18 rfl) L_Law_62 im_MD_shape se_MD_shape (z_MD_shape hM (xs 1)) rfl ⟨by decide, by decide⟩ ⟨by decide, by decide⟩ (by exact le_b rfl) ?_ _ rfl
  rintro _ _ ⟨rfl, rfl⟩
  show PW _ _ _ _ _ _ (715, _, [.int (-1), .int (-1)], _)
  refine P_icmp_eq 3371 d_Law_law_715 (by decide) (fun _ => ?_) (fun h => absurd (by decide) h)
  show PW _ _ _ _ _ _ (3371, [(0, .ref 1000000), (1, .ref 0), (2, .ref 467), (3, .ref 486), (4, .int 0)], [], _)
  refine PW.wide (k' := 500) (n' := 12000) (le_b rfl) (le_b rfl) ?_
  exact PW.drop (lv' := lvE) (fun q hq => by simp only [lvE, List.mem_cons, List.not_mem_nil, or_false] at hq; rcases hq with rfl | rfl | rfl | rfl | rfl <;> simp [lvE]) (hend _)
theorem law_7 {G : pG} {w : pW} {xs : Nat → Int32} (hl : (g_l G).stackTraces = false) (hC : Has cfL w.2) (hM : Has mfL w.2) (hs : w.2 1000000 = .inl (0, 6, .inl xs)) (hx : w.1 < 1000000) (hend : ∀ w' : pW, PW G M_Law_law room_1 (QL G) 500 12000 (3371, lvE, [], w')) : PW G M_Law_law room_1 (QL G) 487 11543 (720, lvE, [], w) := by
  refine P_aload_n d_Law_law_720 rfl ?_
  refine P_aload_n d_Law_law_721 rfl ?_
  refine P_iload d_Law_law_722 rfl ?_
  refine P_iconst (v := 1) d_Law_law_724 (by decide) ?_
  refine P_iadd d_Law_law_725 ?_
  refine P_iald (j := 1) d_Law_law_726 hs ⟨by decide, by decide⟩ (by decide) ?_
  refine P_callV (M := M_Law_law) (pc := 727) (as := [.int (xs 1)]) (b := 0) d_Law_law_727 co_CM_dent ok_CM (fa hC 28 rfl) L_Law_63 im_CM_dent se_CM_dent (z_CM_dent hC (xs 1)) rfl ⟨by decide, by decide⟩ ⟨by decide, by decide⟩ (by exact le_b rfl) ?_ _ rfl
  rintro _ _ ⟨rfl, rfl⟩
  show PW _ _ _ _ _ _ (730, _, [.int (-1)], _)
  refine P_aload_n d_Law_law_730 rfl ?_
  refine P_aload_n d_Law_law_731 rfl ?_
  refine P_iload d_Law_law_732 rfl ?_
  refine P_iconst (v := 1) d_Law_law_734 (by decide) ?_
  refine P_iadd d_Law_law_735 ?_
  refine P_iald (j := 1) d_Law_law_736 hs ⟨by decide, by decide⟩ (by decide) ?_
  refine P_callV (M := M_Law_law) (pc := 737) (as := [.int (xs 1)]) (b := 467) d_Law_law_737 co_MD_dent ok_Model (fa hM 18 rfl) L_Law_66 im_MD_dent se_MD_dent (z_MD_dent hM (xs 1)) rfl ⟨by decide, by decide⟩ ⟨by decide, by decide⟩ (by exact le_b rfl) ?_ _ rfl
  rintro _ _ ⟨rfl, rfl⟩
  show PW _ _ _ _ _ _ (740, _, [.int (-1), .int (-1)], _)
  refine P_icmp_eq 3371 d_Law_law_740 (by decide) (fun _ => ?_) (fun h => absurd (by decide) h)
  show PW _ _ _ _ _ _ (3371, [(0, .ref 1000000), (1, .ref 0), (2, .ref 467), (3, .ref 486), (4, .int 0)], [], _)
  refine PW.wide (k' := 500) (n' := 12000) (le_b rfl) (le_b rfl) ?_
  exact PW.drop (lv' := lvE) (fun q hq => by simp only [lvE, List.mem_cons, List.not_mem_nil, or_false] at hq; rcases hq with rfl | rfl | rfl | rfl | rfl <;> simp [lvE]) (hend _)
theorem law_8 {G : pG} {w : pW} {xs : Nat → Int32} (hl : (g_l G).stackTraces = false) (hC : Has cfL w.2) (hM : Has mfL w.2) (hs : w.2 1000000 = .inl (0, 6, .inl xs)) (hx : w.1 < 1000000) (hend : ∀ w' : pW, PW G M_Law_law room_1 (QL G) 500 12000 (3371, lvE, [], w')) : PW G M_Law_law room_1 (QL G) 487 11543 (745, lvE, [], w) := by
  refine P_aload_n d_Law_law_745 rfl ?_
  refine P_aload_n d_Law_law_746 rfl ?_
  refine P_iload d_Law_law_747 rfl ?_
  refine P_iconst (v := 1) d_Law_law_749 (by decide) ?_
  refine P_iadd d_Law_law_750 ?_
  refine P_iald (j := 1) d_Law_law_751 hs ⟨by decide, by decide⟩ (by decide) ?_
  refine P_callV (M := M_Law_law) (pc := 752) (as := [.int (xs 1)]) (b := 0) d_Law_law_752 co_CM_area ok_CM (fa hC 28 rfl) L_Law_67 im_CM_area se_CM_area (z_CM_area hC (xs 1)) rfl ⟨by decide, by decide⟩ ⟨by decide, by decide⟩ (by exact le_b rfl) ?_ _ rfl
  rintro _ _ ⟨rfl, rfl⟩
  show PW _ _ _ _ _ _ (755, _, [.int (-100000)], _)
  refine P_aload_n d_Law_law_755 rfl ?_
  refine P_aload_n d_Law_law_756 rfl ?_
  refine P_iload d_Law_law_757 rfl ?_
  refine P_iconst (v := 1) d_Law_law_759 (by decide) ?_
  refine P_iadd d_Law_law_760 ?_
  refine P_iald (j := 1) d_Law_law_761 hs ⟨by decide, by decide⟩ (by decide) ?_
  refine P_callV (M := M_Law_law) (pc := 762) (as := [.int (xs 1)]) (b := 467) d_Law_law_762 co_MD_area ok_Model (fa hM 18 rfl) L_Law_70 im_MD_area se_MD_area (z_MD_area hM (xs 1)) rfl ⟨by decide, by decide⟩ ⟨by decide, by decide⟩ (by exact le_b rfl) ?_ _ rfl
  rintro _ _ ⟨rfl, rfl⟩
  show PW _ _ _ _ _ _ (765, _, [.int (-100000), .int (-100000)], _)
  refine P_icmp_eq 3371 d_Law_law_765 (by decide) (fun _ => ?_) (fun h => absurd (by decide) h)
  show PW _ _ _ _ _ _ (3371, [(0, .ref 1000000), (1, .ref 0), (2, .ref 467), (3, .ref 486), (4, .int 0)], [], _)
  refine PW.wide (k' := 500) (n' := 12000) (le_b rfl) (le_b rfl) ?_
  exact PW.drop (lv' := lvE) (fun q hq => by simp only [lvE, List.mem_cons, List.not_mem_nil, or_false] at hq; rcases hq with rfl | rfl | rfl | rfl | rfl <;> simp [lvE]) (hend _)
theorem law_9 {G : pG} {w : pW} {xs : Nat → Int32} (hl : (g_l G).stackTraces = false) (hC : Has cfL w.2) (hM : Has mfL w.2) (hs : w.2 1000000 = .inl (0, 6, .inl xs)) (hx : w.1 < 1000000) (hend : ∀ w' : pW, PW G M_Law_law room_1 (QL G) 500 12000 (3371, lvE, [], w')) : PW G M_Law_law room_1 (QL G) 487 11543 (770, lvE, [], w) := by
  refine P_aload_n d_Law_law_770 rfl ?_
  refine P_aload_n d_Law_law_771 rfl ?_
  refine P_iload d_Law_law_772 rfl ?_
  refine P_iconst (v := 1) d_Law_law_774 (by decide) ?_
  refine P_iadd d_Law_law_775 ?_
  refine P_iald (j := 1) d_Law_law_776 hs ⟨by decide, by decide⟩ (by decide) ?_
  refine P_aload_n d_Law_law_777 rfl ?_
  refine P_iload d_Law_law_778 rfl ?_
  refine P_iconst (v := 2) d_Law_law_780 (by decide) ?_
  refine P_iadd d_Law_law_781 ?_
  refine P_iald (j := 2) d_Law_law_782 hs ⟨by decide, by decide⟩ (by decide) ?_
  refine P_callV (M := M_Law_law) (pc := 783) (as := [.int (xs 1), .int (xs 2)]) (b := 0) d_Law_law_783 co_CM_make ok_CM (fa hC 28 rfl) L_Law_71 im_CM_make se_CM_make (z_CM_make hC (xs 1) (xs 2)) rfl ⟨by decide, by decide⟩ ⟨by decide, by decide⟩ (by exact le_b rfl) ?_ _ rfl
  rintro _ _ ⟨rfl, rfl⟩
  show PW _ _ _ _ _ _ (786, _, [.int (-1)], _)
  refine P_aload_n d_Law_law_786 rfl ?_
  refine P_aload_n d_Law_law_787 rfl ?_
  refine P_iload d_Law_law_788 rfl ?_
  refine P_iconst (v := 1) d_Law_law_790 (by decide) ?_
  refine P_iadd d_Law_law_791 ?_
  refine P_iald (j := 1) d_Law_law_792 hs ⟨by decide, by decide⟩ (by decide) ?_
  refine P_aload_n d_Law_law_793 rfl ?_
  refine P_iload d_Law_law_794 rfl ?_
  refine P_iconst (v := 2) d_Law_law_796 (by decide) ?_
  refine P_iadd d_Law_law_797 ?_
  refine P_iald (j := 2) d_Law_law_798 hs ⟨by decide, by decide⟩ (by decide) ?_
  refine P_callV (M := M_Law_law) (pc := 799) (as := [.int (xs 1), .int (xs 2)]) (b := 467) d_Law_law_799 co_MD_make ok_Model (fa hM 18 rfl) L_Law_74 im_MD_make se_MD_make (z_MD_make hM (xs 1) (xs 2)) rfl ⟨by decide, by decide⟩ ⟨by decide, by decide⟩ (by exact le_b rfl) ?_ _ rfl
  rintro _ _ ⟨rfl, rfl⟩
  show PW _ _ _ _ _ _ (802, _, [.int (-1), .int (-1)], _)
  refine P_icmp_eq 3371 d_Law_law_802 (by decide) (fun _ => ?_) (fun h => absurd (by decide) h)
  show PW _ _ _ _ _ _ (3371, [(0, .ref 1000000), (1, .ref 0), (2, .ref 467), (3, .ref 486), (4, .int 0)], [], _)
  refine PW.wide (k' := 500) (n' := 12000) (le_b rfl) (le_b rfl) ?_
  exact PW.drop (lv' := lvE) (fun q hq => by simp only [lvE, List.mem_cons, List.not_mem_nil, or_false] at hq; rcases hq with rfl | rfl | rfl | rfl | rfl <;> simp [lvE]) (hend _)
theorem law_10 {G : pG} {w : pW} {xs : Nat → Int32} (hl : (g_l G).stackTraces = false) (hC : Has cfL w.2) (hM : Has mfL w.2) (hs : w.2 1000000 = .inl (0, 6, .inl xs)) (hx : w.1 < 1000000) (hend : ∀ w' : pW, PW G M_Law_law room_1 (QL G) 500 12000 (3371, lvE, [], w')) : PW G M_Law_law room_1 (QL G) 487 11543 (807, lvE, [], w) := by
  refine P_aload_n d_Law_law_807 rfl ?_
  refine P_aload_n d_Law_law_808 rfl ?_
  refine P_iload d_Law_law_809 rfl ?_
  refine P_iconst (v := 1) d_Law_law_811 (by decide) ?_
  refine P_iadd d_Law_law_812 ?_
  refine P_iald (j := 1) d_Law_law_813 hs ⟨by decide, by decide⟩ (by decide) ?_
  refine P_aload_n d_Law_law_814 rfl ?_
  refine P_iload d_Law_law_815 rfl ?_
  refine P_iconst (v := 2) d_Law_law_817 (by decide) ?_
  refine P_iadd d_Law_law_818 ?_
  refine P_iald (j := 2) d_Law_law_819 hs ⟨by decide, by decide⟩ (by decide) ?_
  refine P_callV (M := M_Law_law) (pc := 820) (as := [.int (xs 1), .int (xs 2)]) (b := 0) d_Law_law_820 co_CM_square ok_CM (fa hC 28 rfl) L_Law_75 im_CM_square se_CM_square (z_CM_square hC (xs 1) (xs 2)) rfl ⟨by decide, by decide⟩ ⟨by decide, by decide⟩ (by exact le_b rfl) ?_ _ rfl
  rintro _ _ ⟨rfl, rfl⟩
  show PW _ _ _ _ _ _ (823, _, [.int (-1)], _)
  refine P_aload_n d_Law_law_823 rfl ?_
  refine P_aload_n d_Law_law_824 rfl ?_
  refine P_iload d_Law_law_825 rfl ?_
  refine P_iconst (v := 1) d_Law_law_827 (by decide) ?_
  refine P_iadd d_Law_law_828 ?_
  refine P_iald (j := 1) d_Law_law_829 hs ⟨by decide, by decide⟩ (by decide) ?_
  refine P_aload_n d_Law_law_830 rfl ?_
  refine P_iload d_Law_law_831 rfl ?_
  refine P_iconst (v := 2) d_Law_law_833 (by decide) ?_
  refine P_iadd d_Law_law_834 ?_
  refine P_iald (j := 2) d_Law_law_835 hs ⟨by decide, by decide⟩ (by decide) ?_
  refine P_callV (M := M_Law_law) (pc := 836) (as := [.int (xs 1), .int (xs 2)]) (b := 467) d_Law_law_836 co_MD_square ok_Model (fa hM 18 rfl) L_Law_78 im_MD_square se_MD_square (z_MD_square hM (xs 1) (xs 2)) rfl ⟨by decide, by decide⟩ ⟨by decide, by decide⟩ (by exact le_b rfl) ?_ _ rfl
  rintro _ _ ⟨rfl, rfl⟩
  show PW _ _ _ _ _ _ (839, _, [.int (-1), .int (-1)], _)
  refine P_icmp_eq 3371 d_Law_law_839 (by decide) (fun _ => ?_) (fun h => absurd (by decide) h)
  show PW _ _ _ _ _ _ (3371, [(0, .ref 1000000), (1, .ref 0), (2, .ref 467), (3, .ref 486), (4, .int 0)], [], _)
  refine PW.wide (k' := 500) (n' := 12000) (le_b rfl) (le_b rfl) ?_
  exact PW.drop (lv' := lvE) (fun q hq => by simp only [lvE, List.mem_cons, List.not_mem_nil, or_false] at hq; rcases hq with rfl | rfl | rfl | rfl | rfl <;> simp [lvE]) (hend _)
theorem law_11 {G : pG} {w : pW} {xs : Nat → Int32} (hl : (g_l G).stackTraces = false) (hC : Has cfL w.2) (hM : Has mfL w.2) (hs : w.2 1000000 = .inl (0, 6, .inl xs)) (hx : w.1 < 1000000) (hend : ∀ w' : pW, PW G M_Law_law room_1 (QL G) 500 12000 (3371, lvE, [], w')) : PW G M_Law_law room_1 (QL G) 487 11543 (844, lvE, [], w) := by
  refine P_aload_n d_Law_law_844 rfl ?_
  refine P_aload_n d_Law_law_845 rfl ?_
  refine P_iload d_Law_law_846 rfl ?_
  refine P_iconst (v := 1) d_Law_law_848 (by decide) ?_
  refine P_iadd d_Law_law_849 ?_
  refine P_iald (j := 1) d_Law_law_850 hs ⟨by decide, by decide⟩ (by decide) ?_
  refine P_aload_n d_Law_law_851 rfl ?_
  refine P_iload d_Law_law_852 rfl ?_
  refine P_iconst (v := 2) d_Law_law_854 (by decide) ?_
  refine P_iadd d_Law_law_855 ?_
  refine P_iald (j := 2) d_Law_law_856 hs ⟨by decide, by decide⟩ (by decide) ?_
  refine P_callV (M := M_Law_law) (pc := 857) (as := [.int (xs 1), .int (xs 2)]) (b := 0) d_Law_law_857 co_CM_product ok_CM (fa hC 28 rfl) L_Law_79 im_CM_product se_CM_product (z_CM_product hC (xs 1) (xs 2)) rfl ⟨by decide, by decide⟩ ⟨by decide, by decide⟩ (by exact le_b rfl) ?_ _ rfl
  rintro _ _ ⟨rfl, rfl⟩
  show PW _ _ _ _ _ _ (860, _, [.int (-1)], _)
  refine P_aload_n d_Law_law_860 rfl ?_
  refine P_aload_n d_Law_law_861 rfl ?_
  refine P_iload d_Law_law_862 rfl ?_
  refine P_iconst (v := 1) d_Law_law_864 (by decide) ?_
  refine P_iadd d_Law_law_865 ?_
  refine P_iald (j := 1) d_Law_law_866 hs ⟨by decide, by decide⟩ (by decide) ?_
  refine P_aload_n d_Law_law_867 rfl ?_
  refine P_iload d_Law_law_868 rfl ?_
  refine P_iconst (v := 2) d_Law_law_870 (by decide) ?_
  refine P_iadd d_Law_law_871 ?_
  refine P_iald (j := 2) d_Law_law_872 hs ⟨by decide, by decide⟩ (by decide) ?_
  refine P_callV (M := M_Law_law) (pc := 873) (as := [.int (xs 1), .int (xs 2)]) (b := 467) d_Law_law_873 co_MD_product ok_Model (fa hM 18 rfl) L_Law_82 im_MD_product se_MD_product (z_MD_product hM (xs 1) (xs 2)) rfl ⟨by decide, by decide⟩ ⟨by decide, by decide⟩ (by exact le_b rfl) ?_ _ rfl
  rintro _ _ ⟨rfl, rfl⟩
  show PW _ _ _ _ _ _ (876, _, [.int (-1), .int (-1)], _)
  refine P_icmp_eq 3371 d_Law_law_876 (by decide) (fun _ => ?_) (fun h => absurd (by decide) h)
  show PW _ _ _ _ _ _ (3371, [(0, .ref 1000000), (1, .ref 0), (2, .ref 467), (3, .ref 486), (4, .int 0)], [], _)
  refine PW.wide (k' := 500) (n' := 12000) (le_b rfl) (le_b rfl) ?_
  exact PW.drop (lv' := lvE) (fun q hq => by simp only [lvE, List.mem_cons, List.not_mem_nil, or_false] at hq; rcases hq with rfl | rfl | rfl | rfl | rfl <;> simp [lvE]) (hend _)
theorem law_12 {G : pG} {w : pW} {xs : Nat → Int32} (hl : (g_l G).stackTraces = false) (hC : Has cfL w.2) (hM : Has mfL w.2) (hs : w.2 1000000 = .inl (0, 6, .inl xs)) (hx : w.1 < 1000000) (hend : ∀ w' : pW, PW G M_Law_law room_1 (QL G) 500 12000 (3371, lvE, [], w')) : PW G M_Law_law room_1 (QL G) 487 11543 (881, lvE, [], w) := by
  refine P_aload_n d_Law_law_881 rfl ?_
  refine P_aload_n d_Law_law_882 rfl ?_
  refine P_iload d_Law_law_883 rfl ?_
  refine P_iconst (v := 1) d_Law_law_885 (by decide) ?_
  refine P_iadd d_Law_law_886 ?_
  refine P_iald (j := 1) d_Law_law_887 hs ⟨by decide, by decide⟩ (by decide) ?_
  refine P_callV (M := M_Law_law) (pc := 888) (as := [.int (xs 1)]) (b := 0) d_Law_law_888 co_CM_inverse ok_CM (fa hC 28 rfl) L_Law_83 im_CM_inverse se_CM_inverse (z_CM_inverse hC (xs 1)) rfl ⟨by decide, by decide⟩ ⟨by decide, by decide⟩ (by exact le_b rfl) ?_ _ rfl
  rintro _ _ ⟨rfl, rfl⟩
  show PW _ _ _ _ _ _ (891, _, [.int (-1)], _)
  refine P_aload_n d_Law_law_891 rfl ?_
  refine P_aload_n d_Law_law_892 rfl ?_
  refine P_iload d_Law_law_893 rfl ?_
  refine P_iconst (v := 1) d_Law_law_895 (by decide) ?_
  refine P_iadd d_Law_law_896 ?_
  refine P_iald (j := 1) d_Law_law_897 hs ⟨by decide, by decide⟩ (by decide) ?_
  refine P_callV (M := M_Law_law) (pc := 898) (as := [.int (xs 1)]) (b := 467) d_Law_law_898 co_MD_inverse ok_Model (fa hM 18 rfl) L_Law_86 im_MD_inverse se_MD_inverse (z_MD_inverse hM (xs 1)) rfl ⟨by decide, by decide⟩ ⟨by decide, by decide⟩ (by exact le_b rfl) ?_ _ rfl
  rintro _ _ ⟨rfl, rfl⟩
  show PW _ _ _ _ _ _ (901, _, [.int (-1), .int (-1)], _)
  refine P_icmp_eq 3371 d_Law_law_901 (by decide) (fun _ => ?_) (fun h => absurd (by decide) h)
  show PW _ _ _ _ _ _ (3371, [(0, .ref 1000000), (1, .ref 0), (2, .ref 467), (3, .ref 486), (4, .int 0)], [], _)
  refine PW.wide (k' := 500) (n' := 12000) (le_b rfl) (le_b rfl) ?_
  exact PW.drop (lv' := lvE) (fun q hq => by simp only [lvE, List.mem_cons, List.not_mem_nil, or_false] at hq; rcases hq with rfl | rfl | rfl | rfl | rfl <;> simp [lvE]) (hend _)
theorem law_13 {G : pG} {w : pW} {xs : Nat → Int32} (hl : (g_l G).stackTraces = false) (hC : Has cfL w.2) (hM : Has mfL w.2) (hs : w.2 1000000 = .inl (0, 6, .inl xs)) (hx : w.1 < 1000000) (hend : ∀ w' : pW, PW G M_Law_law room_1 (QL G) 500 12000 (3371, lvE, [], w')) : PW G M_Law_law room_1 (QL G) 487 11543 (906, lvE, [], w) := by
  refine P_aload_n d_Law_law_906 rfl ?_
  refine P_aload_n d_Law_law_907 rfl ?_
  refine P_iload d_Law_law_908 rfl ?_
  refine P_iconst (v := 1) d_Law_law_910 (by decide) ?_
  refine P_iadd d_Law_law_911 ?_
  refine P_iald (j := 1) d_Law_law_912 hs ⟨by decide, by decide⟩ (by decide) ?_
  refine P_aload_n d_Law_law_913 rfl ?_
  refine P_iload d_Law_law_914 rfl ?_
  refine P_iconst (v := 2) d_Law_law_916 (by decide) ?_
  refine P_iadd d_Law_law_917 ?_
  refine P_iald (j := 2) d_Law_law_918 hs ⟨by decide, by decide⟩ (by decide) ?_
  refine P_callV (M := M_Law_law) (pc := 919) (as := [.int (xs 1), .int (xs 2)]) (b := 0) d_Law_law_919 co_CM_power ok_CM (fa hC 28 rfl) L_Law_87 im_CM_power se_CM_power (z_CM_power hC (xs 1) (xs 2)) rfl ⟨by decide, by decide⟩ ⟨by decide, by decide⟩ (by exact le_b rfl) ?_ _ rfl
  rintro _ _ ⟨rfl, rfl⟩
  show PW _ _ _ _ _ _ (922, _, [.int (-1)], _)
  refine P_aload_n d_Law_law_922 rfl ?_
  refine P_aload_n d_Law_law_923 rfl ?_
  refine P_iload d_Law_law_924 rfl ?_
  refine P_iconst (v := 1) d_Law_law_926 (by decide) ?_
  refine P_iadd d_Law_law_927 ?_
  refine P_iald (j := 1) d_Law_law_928 hs ⟨by decide, by decide⟩ (by decide) ?_
  refine P_aload_n d_Law_law_929 rfl ?_
  refine P_iload d_Law_law_930 rfl ?_
  refine P_iconst (v := 2) d_Law_law_932 (by decide) ?_
  refine P_iadd d_Law_law_933 ?_
  refine P_iald (j := 2) d_Law_law_934 hs ⟨by decide, by decide⟩ (by decide) ?_
  refine P_callV (M := M_Law_law) (pc := 935) (as := [.int (xs 1), .int (xs 2)]) (b := 467) d_Law_law_935 co_MD_power ok_Model (fa hM 18 rfl) L_Law_90 im_MD_power se_MD_power (z_MD_power hM (xs 1) (xs 2)) rfl ⟨by decide, by decide⟩ ⟨by decide, by decide⟩ (by exact le_b rfl) ?_ _ rfl
  rintro _ _ ⟨rfl, rfl⟩
  show PW _ _ _ _ _ _ (938, _, [.int (-1), .int (-1)], _)
  refine P_icmp_eq 3371 d_Law_law_938 (by decide) (fun _ => ?_) (fun h => absurd (by decide) h)
  show PW _ _ _ _ _ _ (3371, [(0, .ref 1000000), (1, .ref 0), (2, .ref 467), (3, .ref 486), (4, .int 0)], [], _)
  refine PW.wide (k' := 500) (n' := 12000) (le_b rfl) (le_b rfl) ?_
  exact PW.drop (lv' := lvE) (fun q hq => by simp only [lvE, List.mem_cons, List.not_mem_nil, or_false] at hq; rcases hq with rfl | rfl | rfl | rfl | rfl <;> simp [lvE]) (hend _)
theorem law_14 {G : pG} {w : pW} {xs : Nat → Int32} (hl : (g_l G).stackTraces = false) (hC : Has cfL w.2) (hM : Has mfL w.2) (hs : w.2 1000000 = .inl (0, 6, .inl xs)) (hx : w.1 < 1000000) (hend : ∀ w' : pW, PW G M_Law_law room_1 (QL G) 500 12000 (3371, lvE, [], w')) : PW G M_Law_law room_1 (QL G) 487 11543 (943, lvE, [], w) := by
  refine P_aload_n d_Law_law_943 rfl ?_
  refine P_aload_n d_Law_law_944 rfl ?_
  refine P_iload d_Law_law_945 rfl ?_
  refine P_iconst (v := 1) d_Law_law_947 (by decide) ?_
  refine P_iadd d_Law_law_948 ?_
  refine P_iald (j := 1) d_Law_law_949 hs ⟨by decide, by decide⟩ (by decide) ?_
  refine P_callV (M := M_Law_law) (pc := 950) (as := [.int (xs 1)]) (b := 0) d_Law_law_950 co_CM_drop ok_CM (fa hC 28 rfl) L_Law_91 im_CM_drop se_CM_drop (z_CM_drop hC (xs 1)) rfl ⟨by decide, by decide⟩ ⟨by decide, by decide⟩ (by exact le_b rfl) ?_ _ rfl
  rintro _ _ ⟨rfl, rfl⟩
  show PW _ _ _ _ _ _ (953, _, [.int (-1)], _)
  refine P_aload_n d_Law_law_953 rfl ?_
  refine P_aload_n d_Law_law_954 rfl ?_
  refine P_iload d_Law_law_955 rfl ?_
  refine P_iconst (v := 1) d_Law_law_957 (by decide) ?_
  refine P_iadd d_Law_law_958 ?_
  refine P_iald (j := 1) d_Law_law_959 hs ⟨by decide, by decide⟩ (by decide) ?_
  refine P_callV (M := M_Law_law) (pc := 960) (as := [.int (xs 1)]) (b := 467) d_Law_law_960 co_MD_drop ok_Model (fa hM 18 rfl) L_Law_94 im_MD_drop se_MD_drop (z_MD_drop hM (xs 1)) rfl ⟨by decide, by decide⟩ ⟨by decide, by decide⟩ (by exact le_b rfl) ?_ _ rfl
  rintro _ _ ⟨rfl, rfl⟩
  show PW _ _ _ _ _ _ (963, _, [.int (-1), .int (-1)], _)
  refine P_icmp_eq 3371 d_Law_law_963 (by decide) (fun _ => ?_) (fun h => absurd (by decide) h)
  show PW _ _ _ _ _ _ (3371, [(0, .ref 1000000), (1, .ref 0), (2, .ref 467), (3, .ref 486), (4, .int 0)], [], _)
  refine PW.wide (k' := 500) (n' := 12000) (le_b rfl) (le_b rfl) ?_
  exact PW.drop (lv' := lvE) (fun q hq => by simp only [lvE, List.mem_cons, List.not_mem_nil, or_false] at hq; rcases hq with rfl | rfl | rfl | rfl | rfl <;> simp [lvE]) (hend _)
theorem law_15 {G : pG} {w : pW} {xs : Nat → Int32} (hl : (g_l G).stackTraces = false) (hC : Has cfL w.2) (hM : Has mfL w.2) (hs : w.2 1000000 = .inl (0, 6, .inl xs)) (hx : w.1 < 1000000) (hend : ∀ w' : pW, PW G M_Law_law room_1 (QL G) 500 12000 (3371, lvE, [], w')) : PW G M_Law_law room_1 (QL G) 487 11543 (968, lvE, [], w) := by
  refine P_aload_n d_Law_law_968 rfl ?_
  refine P_aload_n d_Law_law_969 rfl ?_
  refine P_iload d_Law_law_970 rfl ?_
  refine P_iconst (v := 1) d_Law_law_972 (by decide) ?_
  refine P_iadd d_Law_law_973 ?_
  refine P_iald (j := 1) d_Law_law_974 hs ⟨by decide, by decide⟩ (by decide) ?_
  refine P_aload_n d_Law_law_975 rfl ?_
  refine P_iload d_Law_law_976 rfl ?_
  refine P_iconst (v := 2) d_Law_law_978 (by decide) ?_
  refine P_iadd d_Law_law_979 ?_
  refine P_iald (j := 2) d_Law_law_980 hs ⟨by decide, by decide⟩ (by decide) ?_
  refine P_aload_n d_Law_law_981 rfl ?_
  refine P_iload d_Law_law_982 rfl ?_
  refine P_iconst (v := 3) d_Law_law_984 (by decide) ?_
  refine P_iadd d_Law_law_985 ?_
  refine P_iald (j := 3) d_Law_law_986 hs ⟨by decide, by decide⟩ (by decide) ?_
  refine P_callV (M := M_Law_law) (pc := 987) (as := [.int (xs 1), .int (xs 2), .int (xs 3)]) (b := 0) d_Law_law_987 co_CM_tell ok_CM (fa hC 28 rfl) L_Law_95 im_CM_tell se_CM_tell (v_CM_tell hC (xs 1) (xs 2) (xs 3)) rfl ⟨le_b rfl, le_b rfl⟩ ⟨le_b rfl, le_b rfl⟩ (by exact le_b rfl) ?_ _ rfl
  rintro _ w1 ⟨rfl, z1, n1⟩
  have hM1 : Has mfL w1.2 := fun q hq => (n1 q.1 (mf_ge q hq)).trans (hM q hq)
  have hs1 : w1.2 1000000 = .inl (0, 6, .inl xs) := (n1 1000000 (le_b rfl)).trans hs
  show PW _ _ _ _ _ _ (990, [(0, .ref 1000000), (1, .ref 0), (2, .ref 467), (3, .ref 486), (4, .int 0)], [.int (tellF (xs 1) (xs 2) (xs 3))], w1)
  refine P_aload_n d_Law_law_990 rfl ?_
  refine P_aload_n d_Law_law_991 rfl ?_
  refine P_iload d_Law_law_992 rfl ?_
  refine P_iconst (v := 1) d_Law_law_994 (by decide) ?_
  refine P_iadd d_Law_law_995 ?_
  refine P_iald (j := 1) d_Law_law_996 hs1 ⟨by decide, by decide⟩ (by decide) ?_
  refine P_aload_n d_Law_law_997 rfl ?_
  refine P_iload d_Law_law_998 rfl ?_
  refine P_iconst (v := 2) d_Law_law_1000 (by decide) ?_
  refine P_iadd d_Law_law_1001 ?_
  refine P_iald (j := 2) d_Law_law_1002 hs1 ⟨by decide, by decide⟩ (by decide) ?_
  refine P_aload_n d_Law_law_1003 rfl ?_
  refine P_iload d_Law_law_1004 rfl ?_
  refine P_iconst (v := 3) d_Law_law_1006 (by decide) ?_
  refine P_iadd d_Law_law_1007 ?_
  refine P_iald (j := 3) d_Law_law_1008 hs1 ⟨by decide, by decide⟩ (by decide) ?_
  refine P_callV (M := M_Law_law) (pc := 1009) (as := [.int (xs 1), .int (xs 2), .int (xs 3)]) (b := 467) d_Law_law_1009 co_MD_tell ok_Model (fa hM1 18 rfl) L_Law_98 im_MD_tell se_MD_tell (v_MD_tell hM1 (xs 1) (xs 2) (xs 3)) rfl ⟨le_b rfl, le_b rfl⟩ ⟨le_b rfl, le_b rfl⟩ (by exact le_b rfl) ?_ _ rfl
  rintro _ w2 ⟨rfl, _⟩
  show PW _ _ _ _ _ _ (1012, [(0, .ref 1000000), (1, .ref 0), (2, .ref 467), (3, .ref 486), (4, .int 0)], [.int (tellF (xs 1) (xs 2) (xs 3)), .int (tellF (xs 1) (xs 2) (xs 3))], w2)
  refine P_icmp_eq 3371 d_Law_law_1012 (by decide) (fun _ => ?_) (fun h => absurd rfl h)
  show PW _ _ _ _ _ _ (3371, [(0, .ref 1000000), (1, .ref 0), (2, .ref 467), (3, .ref 486), (4, .int 0)], [], _)
  refine PW.wide (k' := 500) (n' := 12000) (le_b rfl) (le_b rfl) ?_
  exact PW.drop (lv' := lvE) (fun q hq => by simp only [lvE, List.mem_cons, List.not_mem_nil, or_false] at hq; rcases hq with rfl | rfl | rfl | rfl | rfl <;> simp [lvE]) (hend _)
theorem law_16 {G : pG} {w : pW} {xs : Nat → Int32} (hl : (g_l G).stackTraces = false) (hC : Has cfL w.2) (hM : Has mfL w.2) (hs : w.2 1000000 = .inl (0, 6, .inl xs)) (hx : w.1 < 1000000) (hend : ∀ w' : pW, PW G M_Law_law room_1 (QL G) 500 12000 (3371, lvE, [], w')) : PW G M_Law_law room_1 (QL G) 487 11543 (1017, lvE, [], w) := by
  refine P_aload_n d_Law_law_1017 rfl ?_
  refine P_aload_n d_Law_law_1018 rfl ?_
  refine P_iload d_Law_law_1019 rfl ?_
  refine P_iconst (v := 1) d_Law_law_1021 (by decide) ?_
  refine P_iadd d_Law_law_1022 ?_
  refine P_iald (j := 1) d_Law_law_1023 hs ⟨by decide, by decide⟩ (by decide) ?_
  refine P_callV (M := M_Law_law) (pc := 1024) (as := [.int (xs 1)]) (b := 0) d_Law_law_1024 co_CM_moves ok_CM (fa hC 28 rfl) L_Law_99 im_CM_moves se_CM_moves (z_CM_moves hC (xs 1)) rfl ⟨by decide, by decide⟩ ⟨by decide, by decide⟩ (by exact le_b rfl) ?_ _ rfl
  rintro _ _ ⟨rfl, rfl⟩
  show PW _ _ _ _ _ _ (1027, _, [.int (-1)], _)
  refine P_aload_n d_Law_law_1027 rfl ?_
  refine P_aload_n d_Law_law_1028 rfl ?_
  refine P_iload d_Law_law_1029 rfl ?_
  refine P_iconst (v := 1) d_Law_law_1031 (by decide) ?_
  refine P_iadd d_Law_law_1032 ?_
  refine P_iald (j := 1) d_Law_law_1033 hs ⟨by decide, by decide⟩ (by decide) ?_
  refine P_callV (M := M_Law_law) (pc := 1034) (as := [.int (xs 1)]) (b := 467) d_Law_law_1034 co_MD_moves ok_Model (fa hM 18 rfl) L_Law_102 im_MD_moves se_MD_moves (z_MD_moves hM (xs 1)) rfl ⟨by decide, by decide⟩ ⟨by decide, by decide⟩ (by exact le_b rfl) ?_ _ rfl
  rintro _ _ ⟨rfl, rfl⟩
  show PW _ _ _ _ _ _ (1037, _, [.int (-1), .int (-1)], _)
  refine P_icmp_eq 3371 d_Law_law_1037 (by decide) (fun _ => ?_) (fun h => absurd (by decide) h)
  show PW _ _ _ _ _ _ (3371, [(0, .ref 1000000), (1, .ref 0), (2, .ref 467), (3, .ref 486), (4, .int 0)], [], _)
  refine PW.wide (k' := 500) (n' := 12000) (le_b rfl) (le_b rfl) ?_
  exact PW.drop (lv' := lvE) (fun q hq => by simp only [lvE, List.mem_cons, List.not_mem_nil, or_false] at hq; rcases hq with rfl | rfl | rfl | rfl | rfl <;> simp [lvE]) (hend _)
theorem law_17 {G : pG} {w : pW} {xs : Nat → Int32} (hl : (g_l G).stackTraces = false) (hC : Has cfL w.2) (hM : Has mfL w.2) (hs : w.2 1000000 = .inl (0, 6, .inl xs)) (hx : w.1 < 1000000) (hend : ∀ w' : pW, PW G M_Law_law room_1 (QL G) 500 12000 (3371, lvE, [], w')) : PW G M_Law_law room_1 (QL G) 487 11543 (1042, lvE, [], w) := by
  refine P_aload_n d_Law_law_1042 rfl ?_
  refine P_callV (M := M_Law_law) (pc := 1043) (as := []) (b := 0) d_Law_law_1043 co_CM_undo ok_CM (fa hC 28 rfl) L_Law_103 im_CM_undo se_CM_undo (z_CM_undo hC ) rfl ⟨by decide, by decide⟩ ⟨by decide, by decide⟩ (by exact le_b rfl) ?_ _ rfl
  rintro _ _ ⟨rfl, rfl⟩
  show PW _ _ _ _ _ _ (1046, _, [.int (-1)], _)
  refine P_aload_n d_Law_law_1046 rfl ?_
  refine P_callV (M := M_Law_law) (pc := 1047) (as := []) (b := 467) d_Law_law_1047 co_MD_undo ok_Model (fa hM 18 rfl) L_Law_106 im_MD_undo se_MD_undo (z_MD_undo hM ) rfl ⟨by decide, by decide⟩ ⟨by decide, by decide⟩ (by exact le_b rfl) ?_ _ rfl
  rintro _ _ ⟨rfl, rfl⟩
  show PW _ _ _ _ _ _ (1050, _, [.int (-1), .int (-1)], _)
  refine P_icmp_eq 3371 d_Law_law_1050 (by decide) (fun _ => ?_) (fun h => absurd (by decide) h)
  show PW _ _ _ _ _ _ (3371, [(0, .ref 1000000), (1, .ref 0), (2, .ref 467), (3, .ref 486), (4, .int 0)], [], _)
  refine PW.wide (k' := 500) (n' := 12000) (le_b rfl) (le_b rfl) ?_
  exact PW.drop (lv' := lvE) (fun q hq => by simp only [lvE, List.mem_cons, List.not_mem_nil, or_false] at hq; rcases hq with rfl | rfl | rfl | rfl | rfl <;> simp [lvE]) (hend _)
theorem law_18 {G : pG} {w : pW} {xs : Nat → Int32} (hl : (g_l G).stackTraces = false) (hC : Has cfL w.2) (hM : Has mfL w.2) (hs : w.2 1000000 = .inl (0, 6, .inl xs)) (hx : w.1 < 1000000) (hend : ∀ w' : pW, PW G M_Law_law room_1 (QL G) 500 12000 (3371, lvE, [], w')) : PW G M_Law_law room_1 (QL G) 487 11543 (1055, lvE, [], w) := by
  refine P_aload_n d_Law_law_1055 rfl ?_
  refine P_aload_n d_Law_law_1056 rfl ?_
  refine P_iload d_Law_law_1057 rfl ?_
  refine P_iconst (v := 1) d_Law_law_1059 (by decide) ?_
  refine P_iadd d_Law_law_1060 ?_
  refine P_iald (j := 1) d_Law_law_1061 hs ⟨by decide, by decide⟩ (by decide) ?_
  refine P_aload_n d_Law_law_1062 rfl ?_
  refine P_iload d_Law_law_1063 rfl ?_
  refine P_iconst (v := 2) d_Law_law_1065 (by decide) ?_
  refine P_iadd d_Law_law_1066 ?_
  refine P_iald (j := 2) d_Law_law_1067 hs ⟨by decide, by decide⟩ (by decide) ?_
  refine P_aload_n d_Law_law_1068 rfl ?_
  refine P_iload d_Law_law_1069 rfl ?_
  refine P_iconst (v := 3) d_Law_law_1071 (by decide) ?_
  refine P_iadd d_Law_law_1072 ?_
  refine P_iald (j := 3) d_Law_law_1073 hs ⟨by decide, by decide⟩ (by decide) ?_
  refine P_aload_n d_Law_law_1074 rfl ?_
  refine P_iload d_Law_law_1075 rfl ?_
  refine P_iconst (v := 4) d_Law_law_1077 (by decide) ?_
  refine P_iadd d_Law_law_1078 ?_
  refine P_iald (j := 4) d_Law_law_1079 hs ⟨by decide, by decide⟩ (by decide) ?_
  refine P_aload_n d_Law_law_1080 rfl ?_
  refine P_iload d_Law_law_1081 rfl ?_
  refine P_iconst (v := 5) d_Law_law_1083 (by decide) ?_
  refine P_iadd d_Law_law_1084 ?_
  refine P_iald (j := 5) d_Law_law_1085 hs ⟨by decide, by decide⟩ (by decide) ?_
  refine P_callV (M := M_Law_law) (pc := 1086) (as := [.int (xs 1), .int (xs 2), .int (xs 3), .int (xs 4), .int (xs 5)]) (b := 0) d_Law_law_1086 co_CM_image ok_CM (fa hC 28 rfl) L_Law_107 im_CM_image se_CM_image (z_CM_image hC (xs 1) (xs 2) (xs 3) (xs 4) (xs 5)) rfl ⟨by decide, by decide⟩ ⟨by decide, by decide⟩ (by exact le_b rfl) ?_ _ rfl
  rintro _ _ ⟨rfl, rfl⟩
  show PW _ _ _ _ _ _ (1089, _, [.long (-9223372036854775808)], _)
  refine P_aload_n d_Law_law_1089 rfl ?_
  refine P_aload_n d_Law_law_1090 rfl ?_
  refine P_iload d_Law_law_1091 rfl ?_
  refine P_iconst (v := 1) d_Law_law_1093 (by decide) ?_
  refine P_iadd d_Law_law_1094 ?_
  refine P_iald (j := 1) d_Law_law_1095 hs ⟨by decide, by decide⟩ (by decide) ?_
  refine P_aload_n d_Law_law_1096 rfl ?_
  refine P_iload d_Law_law_1097 rfl ?_
  refine P_iconst (v := 2) d_Law_law_1099 (by decide) ?_
  refine P_iadd d_Law_law_1100 ?_
  refine P_iald (j := 2) d_Law_law_1101 hs ⟨by decide, by decide⟩ (by decide) ?_
  refine P_aload_n d_Law_law_1102 rfl ?_
  refine P_iload d_Law_law_1103 rfl ?_
  refine P_iconst (v := 3) d_Law_law_1105 (by decide) ?_
  refine P_iadd d_Law_law_1106 ?_
  refine P_iald (j := 3) d_Law_law_1107 hs ⟨by decide, by decide⟩ (by decide) ?_
  refine P_aload_n d_Law_law_1108 rfl ?_
  refine P_iload d_Law_law_1109 rfl ?_
  refine P_iconst (v := 4) d_Law_law_1111 (by decide) ?_
  refine P_iadd d_Law_law_1112 ?_
  refine P_iald (j := 4) d_Law_law_1113 hs ⟨by decide, by decide⟩ (by decide) ?_
  refine P_aload_n d_Law_law_1114 rfl ?_
  refine P_iload d_Law_law_1115 rfl ?_
  refine P_iconst (v := 5) d_Law_law_1117 (by decide) ?_
  refine P_iadd d_Law_law_1118 ?_
  refine P_iald (j := 5) d_Law_law_1119 hs ⟨by decide, by decide⟩ (by decide) ?_
  refine P_callV (M := M_Law_law) (pc := 1120) (as := [.int (xs 1), .int (xs 2), .int (xs 3), .int (xs 4), .int (xs 5)]) (b := 467) d_Law_law_1120 co_MD_image ok_Model (fa hM 18 rfl) L_Law_111 im_MD_image se_MD_image (z_MD_image hM (xs 1) (xs 2) (xs 3) (xs 4) (xs 5)) rfl ⟨by decide, by decide⟩ ⟨by decide, by decide⟩ (by exact le_b rfl) ?_ _ rfl
  rintro _ _ ⟨rfl, rfl⟩
  show PW _ _ _ _ _ _ (1123, _, [.long (-9223372036854775808), .long (-9223372036854775808)], _)
  refine P_lcmp d_Law_law_1123 ?_
  refine P_if_eq 3371 d_Law_law_1124 (by decide) (fun _ => ?_) (fun h => absurd (by decide) h)
  show PW _ _ _ _ _ _ (3371, [(0, .ref 1000000), (1, .ref 0), (2, .ref 467), (3, .ref 486), (4, .int 0)], [], _)
  refine PW.wide (k' := 500) (n' := 12000) (le_b rfl) (le_b rfl) ?_
  exact PW.drop (lv' := lvE) (fun q hq => by simp only [lvE, List.mem_cons, List.not_mem_nil, or_false] at hq; rcases hq with rfl | rfl | rfl | rfl | rfl <;> simp [lvE]) (hend _)
theorem law_19 {G : pG} {w : pW} {xs : Nat → Int32} (hl : (g_l G).stackTraces = false) (hC : Has cfL w.2) (hM : Has mfL w.2) (hs : w.2 1000000 = .inl (0, 6, .inl xs)) (hx : w.1 < 1000000) (hend : ∀ w' : pW, PW G M_Law_law room_1 (QL G) 500 12000 (3371, lvE, [], w')) : PW G M_Law_law room_1 (QL G) 487 11543 (1129, lvE, [], w) := by
  refine P_aload_n d_Law_law_1129 rfl ?_
  refine P_aload_n d_Law_law_1130 rfl ?_
  refine P_iload d_Law_law_1131 rfl ?_
  refine P_iconst (v := 1) d_Law_law_1133 (by decide) ?_
  refine P_iadd d_Law_law_1134 ?_
  refine P_iald (j := 1) d_Law_law_1135 hs ⟨by decide, by decide⟩ (by decide) ?_
  refine P_aload_n d_Law_law_1136 rfl ?_
  refine P_iload d_Law_law_1137 rfl ?_
  refine P_iconst (v := 2) d_Law_law_1139 (by decide) ?_
  refine P_iadd d_Law_law_1140 ?_
  refine P_iald (j := 2) d_Law_law_1141 hs ⟨by decide, by decide⟩ (by decide) ?_
  refine P_aload_n d_Law_law_1142 rfl ?_
  refine P_iload d_Law_law_1143 rfl ?_
  refine P_iconst (v := 3) d_Law_law_1145 (by decide) ?_
  refine P_iadd d_Law_law_1146 ?_
  refine P_iald (j := 3) d_Law_law_1147 hs ⟨by decide, by decide⟩ (by decide) ?_
  refine P_aload_n d_Law_law_1148 rfl ?_
  refine P_iload d_Law_law_1149 rfl ?_
  refine P_iconst (v := 4) d_Law_law_1151 (by decide) ?_
  refine P_iadd d_Law_law_1152 ?_
  refine P_iald (j := 4) d_Law_law_1153 hs ⟨by decide, by decide⟩ (by decide) ?_
  refine P_aload_n d_Law_law_1154 rfl ?_
  refine P_iload d_Law_law_1155 rfl ?_
  refine P_iconst (v := 5) d_Law_law_1157 (by decide) ?_
  refine P_iadd d_Law_law_1158 ?_
  refine P_iald (j := 5) d_Law_law_1159 hs ⟨by decide, by decide⟩ (by decide) ?_
  refine P_callV (M := M_Law_law) (pc := 1160) (as := [.int (xs 1), .int (xs 2), .int (xs 3), .int (xs 4), .int (xs 5)]) (b := 0) d_Law_law_1160 co_CM_before ok_CM (fa hC 28 rfl) L_Law_112 im_CM_before se_CM_before (z_CM_before hC (xs 1) (xs 2) (xs 3) (xs 4) (xs 5)) rfl ⟨by decide, by decide⟩ ⟨by decide, by decide⟩ (by exact le_b rfl) ?_ _ rfl
  rintro _ _ ⟨rfl, rfl⟩
  show PW _ _ _ _ _ _ (1163, _, [.long (-9223372036854775808)], _)
  refine P_aload_n d_Law_law_1163 rfl ?_
  refine P_aload_n d_Law_law_1164 rfl ?_
  refine P_iload d_Law_law_1165 rfl ?_
  refine P_iconst (v := 1) d_Law_law_1167 (by decide) ?_
  refine P_iadd d_Law_law_1168 ?_
  refine P_iald (j := 1) d_Law_law_1169 hs ⟨by decide, by decide⟩ (by decide) ?_
  refine P_aload_n d_Law_law_1170 rfl ?_
  refine P_iload d_Law_law_1171 rfl ?_
  refine P_iconst (v := 2) d_Law_law_1173 (by decide) ?_
  refine P_iadd d_Law_law_1174 ?_
  refine P_iald (j := 2) d_Law_law_1175 hs ⟨by decide, by decide⟩ (by decide) ?_
  refine P_aload_n d_Law_law_1176 rfl ?_
  refine P_iload d_Law_law_1177 rfl ?_
  refine P_iconst (v := 3) d_Law_law_1179 (by decide) ?_
  refine P_iadd d_Law_law_1180 ?_
  refine P_iald (j := 3) d_Law_law_1181 hs ⟨by decide, by decide⟩ (by decide) ?_
  refine P_aload_n d_Law_law_1182 rfl ?_
  refine P_iload d_Law_law_1183 rfl ?_
  refine P_iconst (v := 4) d_Law_law_1185 (by decide) ?_
  refine P_iadd d_Law_law_1186 ?_
  refine P_iald (j := 4) d_Law_law_1187 hs ⟨by decide, by decide⟩ (by decide) ?_
  refine P_aload_n d_Law_law_1188 rfl ?_
  refine P_iload d_Law_law_1189 rfl ?_
  refine P_iconst (v := 5) d_Law_law_1191 (by decide) ?_
  refine P_iadd d_Law_law_1192 ?_
  refine P_iald (j := 5) d_Law_law_1193 hs ⟨by decide, by decide⟩ (by decide) ?_
  refine P_callV (M := M_Law_law) (pc := 1194) (as := [.int (xs 1), .int (xs 2), .int (xs 3), .int (xs 4), .int (xs 5)]) (b := 467) d_Law_law_1194 co_MD_before ok_Model (fa hM 18 rfl) L_Law_115 im_MD_before se_MD_before (z_MD_before hM (xs 1) (xs 2) (xs 3) (xs 4) (xs 5)) rfl ⟨by decide, by decide⟩ ⟨by decide, by decide⟩ (by exact le_b rfl) ?_ _ rfl
  rintro _ _ ⟨rfl, rfl⟩
  show PW _ _ _ _ _ _ (1197, _, [.long (-9223372036854775808), .long (-9223372036854775808)], _)
  refine P_lcmp d_Law_law_1197 ?_
  refine P_if_eq 3371 d_Law_law_1198 (by decide) (fun _ => ?_) (fun h => absurd (by decide) h)
  show PW _ _ _ _ _ _ (3371, [(0, .ref 1000000), (1, .ref 0), (2, .ref 467), (3, .ref 486), (4, .int 0)], [], _)
  refine PW.wide (k' := 500) (n' := 12000) (le_b rfl) (le_b rfl) ?_
  exact PW.drop (lv' := lvE) (fun q hq => by simp only [lvE, List.mem_cons, List.not_mem_nil, or_false] at hq; rcases hq with rfl | rfl | rfl | rfl | rfl <;> simp [lvE]) (hend _)
theorem law_20 {G : pG} {w : pW} {xs : Nat → Int32} (hl : (g_l G).stackTraces = false) (hC : Has cfL w.2) (hM : Has mfL w.2) (hs : w.2 1000000 = .inl (0, 6, .inl xs)) (hx : w.1 < 1000000) (hend : ∀ w' : pW, PW G M_Law_law room_1 (QL G) 500 12000 (3371, lvE, [], w')) : PW G M_Law_law room_1 (QL G) 487 11543 (1203, lvE, [], w) := by
  refine P_aload_n d_Law_law_1203 rfl ?_
  refine P_aload_n d_Law_law_1204 rfl ?_
  refine P_iload d_Law_law_1205 rfl ?_
  refine P_iconst (v := 1) d_Law_law_1207 (by decide) ?_
  refine P_iadd d_Law_law_1208 ?_
  refine P_iald (j := 1) d_Law_law_1209 hs ⟨by decide, by decide⟩ (by decide) ?_
  refine P_aload_n d_Law_law_1210 rfl ?_
  refine P_iload d_Law_law_1211 rfl ?_
  refine P_iconst (v := 2) d_Law_law_1213 (by decide) ?_
  refine P_iadd d_Law_law_1214 ?_
  refine P_iald (j := 2) d_Law_law_1215 hs ⟨by decide, by decide⟩ (by decide) ?_
  refine P_aload_n d_Law_law_1216 rfl ?_
  refine P_iload d_Law_law_1217 rfl ?_
  refine P_iconst (v := 3) d_Law_law_1219 (by decide) ?_
  refine P_iadd d_Law_law_1220 ?_
  refine P_iald (j := 3) d_Law_law_1221 hs ⟨by decide, by decide⟩ (by decide) ?_
  refine P_aload_n d_Law_law_1222 rfl ?_
  refine P_iload d_Law_law_1223 rfl ?_
  refine P_iconst (v := 4) d_Law_law_1225 (by decide) ?_
  refine P_iadd d_Law_law_1226 ?_
  refine P_iald (j := 4) d_Law_law_1227 hs ⟨by decide, by decide⟩ (by decide) ?_
  refine P_aload_n d_Law_law_1228 rfl ?_
  refine P_iload d_Law_law_1229 rfl ?_
  refine P_iconst (v := 5) d_Law_law_1231 (by decide) ?_
  refine P_iadd d_Law_law_1232 ?_
  refine P_iald (j := 5) d_Law_law_1233 hs ⟨by decide, by decide⟩ (by decide) ?_
  refine P_callV (M := M_Law_law) (pc := 1234) (as := [.int (xs 1), .int (xs 2), .int (xs 3), .int (xs 4), .int (xs 5)]) (b := 0) d_Law_law_1234 co_CM_line ok_CM (fa hC 28 rfl) L_Law_116 im_CM_line se_CM_line (z_CM_line hC (xs 1) (xs 2) (xs 3) (xs 4) (xs 5)) rfl ⟨by decide, by decide⟩ ⟨by decide, by decide⟩ (by exact le_b rfl) ?_ _ rfl
  rintro _ _ ⟨rfl, rfl⟩
  show PW _ _ _ _ _ _ (1237, _, [.long (-9223372036854775808)], _)
  refine P_aload_n d_Law_law_1237 rfl ?_
  refine P_aload_n d_Law_law_1238 rfl ?_
  refine P_iload d_Law_law_1239 rfl ?_
  refine P_iconst (v := 1) d_Law_law_1241 (by decide) ?_
  refine P_iadd d_Law_law_1242 ?_
  refine P_iald (j := 1) d_Law_law_1243 hs ⟨by decide, by decide⟩ (by decide) ?_
  refine P_aload_n d_Law_law_1244 rfl ?_
  refine P_iload d_Law_law_1245 rfl ?_
  refine P_iconst (v := 2) d_Law_law_1247 (by decide) ?_
  refine P_iadd d_Law_law_1248 ?_
  refine P_iald (j := 2) d_Law_law_1249 hs ⟨by decide, by decide⟩ (by decide) ?_
  refine P_aload_n d_Law_law_1250 rfl ?_
  refine P_iload d_Law_law_1251 rfl ?_
  refine P_iconst (v := 3) d_Law_law_1253 (by decide) ?_
  refine P_iadd d_Law_law_1254 ?_
  refine P_iald (j := 3) d_Law_law_1255 hs ⟨by decide, by decide⟩ (by decide) ?_
  refine P_aload_n d_Law_law_1256 rfl ?_
  refine P_iload d_Law_law_1257 rfl ?_
  refine P_iconst (v := 4) d_Law_law_1259 (by decide) ?_
  refine P_iadd d_Law_law_1260 ?_
  refine P_iald (j := 4) d_Law_law_1261 hs ⟨by decide, by decide⟩ (by decide) ?_
  refine P_aload_n d_Law_law_1262 rfl ?_
  refine P_iload d_Law_law_1263 rfl ?_
  refine P_iconst (v := 5) d_Law_law_1265 (by decide) ?_
  refine P_iadd d_Law_law_1266 ?_
  refine P_iald (j := 5) d_Law_law_1267 hs ⟨by decide, by decide⟩ (by decide) ?_
  refine P_callV (M := M_Law_law) (pc := 1268) (as := [.int (xs 1), .int (xs 2), .int (xs 3), .int (xs 4), .int (xs 5)]) (b := 467) d_Law_law_1268 co_MD_line ok_Model (fa hM 18 rfl) L_Law_119 im_MD_line se_MD_line (z_MD_line hM (xs 1) (xs 2) (xs 3) (xs 4) (xs 5)) rfl ⟨by decide, by decide⟩ ⟨by decide, by decide⟩ (by exact le_b rfl) ?_ _ rfl
  rintro _ _ ⟨rfl, rfl⟩
  show PW _ _ _ _ _ _ (1271, _, [.long (-9223372036854775808), .long (-9223372036854775808)], _)
  refine P_lcmp d_Law_law_1271 ?_
  refine P_if_eq 3371 d_Law_law_1272 (by decide) (fun _ => ?_) (fun h => absurd (by decide) h)
  show PW _ _ _ _ _ _ (3371, [(0, .ref 1000000), (1, .ref 0), (2, .ref 467), (3, .ref 486), (4, .int 0)], [], _)
  refine PW.wide (k' := 500) (n' := 12000) (le_b rfl) (le_b rfl) ?_
  exact PW.drop (lv' := lvE) (fun q hq => by simp only [lvE, List.mem_cons, List.not_mem_nil, or_false] at hq; rcases hq with rfl | rfl | rfl | rfl | rfl <;> simp [lvE]) (hend _)
theorem law_21 {G : pG} {w : pW} {xs : Nat → Int32} (hl : (g_l G).stackTraces = false) (hC : Has cfL w.2) (hM : Has mfL w.2) (hs : w.2 1000000 = .inl (0, 6, .inl xs)) (hx : w.1 < 1000000) (hend : ∀ w' : pW, PW G M_Law_law room_1 (QL G) 500 12000 (3371, lvE, [], w')) : PW G M_Law_law room_1 (QL G) 487 11543 (1277, lvE, [], w) := by
  refine P_aload_n d_Law_law_1277 rfl ?_
  refine P_aload_n d_Law_law_1278 rfl ?_
  refine P_iload d_Law_law_1279 rfl ?_
  refine P_iconst (v := 1) d_Law_law_1281 (by decide) ?_
  refine P_iadd d_Law_law_1282 ?_
  refine P_iald (j := 1) d_Law_law_1283 hs ⟨by decide, by decide⟩ (by decide) ?_
  refine P_aload_n d_Law_law_1284 rfl ?_
  refine P_iload d_Law_law_1285 rfl ?_
  refine P_iconst (v := 2) d_Law_law_1287 (by decide) ?_
  refine P_iadd d_Law_law_1288 ?_
  refine P_iald (j := 2) d_Law_law_1289 hs ⟨by decide, by decide⟩ (by decide) ?_
  refine P_callV (M := M_Law_law) (pc := 1290) (as := [.int (xs 1), .int (xs 2)]) (b := 0) d_Law_law_1290 co_CM_horizon ok_CM (fa hC 28 rfl) L_Law_120 im_CM_horizon se_CM_horizon (z_CM_horizon hC (xs 1) (xs 2)) rfl ⟨by decide, by decide⟩ ⟨by decide, by decide⟩ (by exact le_b rfl) ?_ _ rfl
  rintro _ _ ⟨rfl, rfl⟩
  show PW _ _ _ _ _ _ (1293, _, [.long (-9223372036854775808)], _)
  refine P_aload_n d_Law_law_1293 rfl ?_
  refine P_aload_n d_Law_law_1294 rfl ?_
  refine P_iload d_Law_law_1295 rfl ?_
  refine P_iconst (v := 1) d_Law_law_1297 (by decide) ?_
  refine P_iadd d_Law_law_1298 ?_
  refine P_iald (j := 1) d_Law_law_1299 hs ⟨by decide, by decide⟩ (by decide) ?_
  refine P_aload_n d_Law_law_1300 rfl ?_
  refine P_iload d_Law_law_1301 rfl ?_
  refine P_iconst (v := 2) d_Law_law_1303 (by decide) ?_
  refine P_iadd d_Law_law_1304 ?_
  refine P_iald (j := 2) d_Law_law_1305 hs ⟨by decide, by decide⟩ (by decide) ?_
  refine P_callV (M := M_Law_law) (pc := 1306) (as := [.int (xs 1), .int (xs 2)]) (b := 467) d_Law_law_1306 co_MD_horizon ok_Model (fa hM 18 rfl) L_Law_124 im_MD_horizon se_MD_horizon (z_MD_horizon hM (xs 1) (xs 2)) rfl ⟨by decide, by decide⟩ ⟨by decide, by decide⟩ (by exact le_b rfl) ?_ _ rfl
  rintro _ _ ⟨rfl, rfl⟩
  show PW _ _ _ _ _ _ (1309, _, [.long (-9223372036854775808), .long (-9223372036854775808)], _)
  refine P_lcmp d_Law_law_1309 ?_
  refine P_if_eq 3371 d_Law_law_1310 (by decide) (fun _ => ?_) (fun h => absurd (by decide) h)
  show PW _ _ _ _ _ _ (3371, [(0, .ref 1000000), (1, .ref 0), (2, .ref 467), (3, .ref 486), (4, .int 0)], [], _)
  refine PW.wide (k' := 500) (n' := 12000) (le_b rfl) (le_b rfl) ?_
  exact PW.drop (lv' := lvE) (fun q hq => by simp only [lvE, List.mem_cons, List.not_mem_nil, or_false] at hq; rcases hq with rfl | rfl | rfl | rfl | rfl <;> simp [lvE]) (hend _)
theorem law_22 {G : pG} {w : pW} {xs : Nat → Int32} (hl : (g_l G).stackTraces = false) (hC : Has cfL w.2) (hM : Has mfL w.2) (hs : w.2 1000000 = .inl (0, 6, .inl xs)) (hx : w.1 < 1000000) (hend : ∀ w' : pW, PW G M_Law_law room_1 (QL G) 500 12000 (3371, lvE, [], w')) : PW G M_Law_law room_1 (QL G) 487 11543 (1315, lvE, [], w) := by
  refine P_aload_n d_Law_law_1315 rfl ?_
  refine P_aload_n d_Law_law_1316 rfl ?_
  refine P_iload d_Law_law_1317 rfl ?_
  refine P_iconst (v := 1) d_Law_law_1319 (by decide) ?_
  refine P_iadd d_Law_law_1320 ?_
  refine P_iald (j := 1) d_Law_law_1321 hs ⟨by decide, by decide⟩ (by decide) ?_
  refine P_aload_n d_Law_law_1322 rfl ?_
  refine P_iload d_Law_law_1323 rfl ?_
  refine P_iconst (v := 2) d_Law_law_1325 (by decide) ?_
  refine P_iadd d_Law_law_1326 ?_
  refine P_iald (j := 2) d_Law_law_1327 hs ⟨by decide, by decide⟩ (by decide) ?_
  refine P_callV (M := M_Law_law) (pc := 1328) (as := [.int (xs 1), .int (xs 2)]) (b := 0) d_Law_law_1328 co_CM_vanishing ok_CM (fa hC 28 rfl) L_Law_125 im_CM_vanishing se_CM_vanishing (z_CM_vanishing hC (xs 1) (xs 2)) rfl ⟨by decide, by decide⟩ ⟨by decide, by decide⟩ (by exact le_b rfl) ?_ _ rfl
  rintro _ _ ⟨rfl, rfl⟩
  show PW _ _ _ _ _ _ (1331, _, [.long (-9223372036854775808)], _)
  refine P_aload_n d_Law_law_1331 rfl ?_
  refine P_aload_n d_Law_law_1332 rfl ?_
  refine P_iload d_Law_law_1333 rfl ?_
  refine P_iconst (v := 1) d_Law_law_1335 (by decide) ?_
  refine P_iadd d_Law_law_1336 ?_
  refine P_iald (j := 1) d_Law_law_1337 hs ⟨by decide, by decide⟩ (by decide) ?_
  refine P_aload_n d_Law_law_1338 rfl ?_
  refine P_iload d_Law_law_1339 rfl ?_
  refine P_iconst (v := 2) d_Law_law_1341 (by decide) ?_
  refine P_iadd d_Law_law_1342 ?_
  refine P_iald (j := 2) d_Law_law_1343 hs ⟨by decide, by decide⟩ (by decide) ?_
  refine P_callV (M := M_Law_law) (pc := 1344) (as := [.int (xs 1), .int (xs 2)]) (b := 467) d_Law_law_1344 co_MD_vanishing ok_Model (fa hM 18 rfl) L_Law_128 im_MD_vanishing se_MD_vanishing (z_MD_vanishing hM (xs 1) (xs 2)) rfl ⟨by decide, by decide⟩ ⟨by decide, by decide⟩ (by exact le_b rfl) ?_ _ rfl
  rintro _ _ ⟨rfl, rfl⟩
  show PW _ _ _ _ _ _ (1347, _, [.long (-9223372036854775808), .long (-9223372036854775808)], _)
  refine P_lcmp d_Law_law_1347 ?_
  refine P_if_eq 3371 d_Law_law_1348 (by decide) (fun _ => ?_) (fun h => absurd (by decide) h)
  show PW _ _ _ _ _ _ (3371, [(0, .ref 1000000), (1, .ref 0), (2, .ref 467), (3, .ref 486), (4, .int 0)], [], _)
  refine PW.wide (k' := 500) (n' := 12000) (le_b rfl) (le_b rfl) ?_
  exact PW.drop (lv' := lvE) (fun q hq => by simp only [lvE, List.mem_cons, List.not_mem_nil, or_false] at hq; rcases hq with rfl | rfl | rfl | rfl | rfl <;> simp [lvE]) (hend _)
theorem law_23 {G : pG} {w : pW} {xs : Nat → Int32} (hl : (g_l G).stackTraces = false) (hC : Has cfL w.2) (hM : Has mfL w.2) (hs : w.2 1000000 = .inl (0, 6, .inl xs)) (hx : w.1 < 1000000) (hend : ∀ w' : pW, PW G M_Law_law room_1 (QL G) 500 12000 (3371, lvE, [], w')) : PW G M_Law_law room_1 (QL G) 487 11543 (1353, lvE, [], w) := by
  refine P_aload_n d_Law_law_1353 rfl ?_
  refine P_aload_n d_Law_law_1354 rfl ?_
  refine P_iload d_Law_law_1355 rfl ?_
  refine P_iconst (v := 1) d_Law_law_1357 (by decide) ?_
  refine P_iadd d_Law_law_1358 ?_
  refine P_iald (j := 1) d_Law_law_1359 hs ⟨by decide, by decide⟩ (by decide) ?_
  refine P_aload_n d_Law_law_1360 rfl ?_
  refine P_iload d_Law_law_1361 rfl ?_
  refine P_iconst (v := 2) d_Law_law_1363 (by decide) ?_
  refine P_iadd d_Law_law_1364 ?_
  refine P_iald (j := 2) d_Law_law_1365 hs ⟨by decide, by decide⟩ (by decide) ?_
  refine P_aload_n d_Law_law_1366 rfl ?_
  refine P_iload d_Law_law_1367 rfl ?_
  refine P_iconst (v := 3) d_Law_law_1369 (by decide) ?_
  refine P_iadd d_Law_law_1370 ?_
  refine P_iald (j := 3) d_Law_law_1371 hs ⟨by decide, by decide⟩ (by decide) ?_
  refine P_callV (M := M_Law_law) (pc := 1372) (as := [.int (xs 1), .int (xs 2), .int (xs 3)]) (b := 0) d_Law_law_1372 co_CM_cut ok_CM (fa hC 28 rfl) L_Law_129 im_CM_cut se_CM_cut (z_CM_cut hC (xs 1) (xs 2) (xs 3)) rfl ⟨by decide, by decide⟩ ⟨by decide, by decide⟩ (by exact le_b rfl) ?_ _ rfl
  rintro _ _ ⟨rfl, rfl⟩
  show PW _ _ _ _ _ _ (1375, _, [.int (-1)], _)
  refine P_aload_n d_Law_law_1375 rfl ?_
  refine P_aload_n d_Law_law_1376 rfl ?_
  refine P_iload d_Law_law_1377 rfl ?_
  refine P_iconst (v := 1) d_Law_law_1379 (by decide) ?_
  refine P_iadd d_Law_law_1380 ?_
  refine P_iald (j := 1) d_Law_law_1381 hs ⟨by decide, by decide⟩ (by decide) ?_
  refine P_aload_n d_Law_law_1382 rfl ?_
  refine P_iload d_Law_law_1383 rfl ?_
  refine P_iconst (v := 2) d_Law_law_1385 (by decide) ?_
  refine P_iadd d_Law_law_1386 ?_
  refine P_iald (j := 2) d_Law_law_1387 hs ⟨by decide, by decide⟩ (by decide) ?_
  refine P_aload_n d_Law_law_1388 rfl ?_
  refine P_iload d_Law_law_1389 rfl ?_
  refine P_iconst (v := 3) d_Law_law_1391 (by decide) ?_
  refine P_iadd d_Law_law_1392 ?_
  refine P_iald (j := 3) d_Law_law_1393 hs ⟨by decide, by decide⟩ (by decide) ?_
  refine P_callV (M := M_Law_law) (pc := 1394) (as := [.int (xs 1), .int (xs 2), .int (xs 3)]) (b := 467) d_Law_law_1394 co_MD_cut ok_Model (fa hM 18 rfl) L_Law_132 im_MD_cut se_MD_cut (z_MD_cut hM (xs 1) (xs 2) (xs 3)) rfl ⟨by decide, by decide⟩ ⟨by decide, by decide⟩ (by exact le_b rfl) ?_ _ rfl
  rintro _ _ ⟨rfl, rfl⟩
  show PW _ _ _ _ _ _ (1397, _, [.int (-1), .int (-1)], _)
  refine P_icmp_eq 3371 d_Law_law_1397 (by decide) (fun _ => ?_) (fun h => absurd (by decide) h)
  show PW _ _ _ _ _ _ (3371, [(0, .ref 1000000), (1, .ref 0), (2, .ref 467), (3, .ref 486), (4, .int 0)], [], _)
  refine PW.wide (k' := 500) (n' := 12000) (le_b rfl) (le_b rfl) ?_
  exact PW.drop (lv' := lvE) (fun q hq => by simp only [lvE, List.mem_cons, List.not_mem_nil, or_false] at hq; rcases hq with rfl | rfl | rfl | rfl | rfl <;> simp [lvE]) (hend _)
theorem law_24 {G : pG} {w : pW} {xs : Nat → Int32} (hl : (g_l G).stackTraces = false) (hC : Has cfL w.2) (hM : Has mfL w.2) (hs : w.2 1000000 = .inl (0, 6, .inl xs)) (hx : w.1 < 1000000) (hend : ∀ w' : pW, PW G M_Law_law room_1 (QL G) 500 12000 (3371, lvE, [], w')) : PW G M_Law_law room_1 (QL G) 487 11543 (1402, lvE, [], w) := by
  refine P_aload_n d_Law_law_1402 rfl ?_
  refine P_aload_n d_Law_law_1403 rfl ?_
  refine P_iload d_Law_law_1404 rfl ?_
  refine P_iconst (v := 1) d_Law_law_1406 (by decide) ?_
  refine P_iadd d_Law_law_1407 ?_
  refine P_iald (j := 1) d_Law_law_1408 hs ⟨by decide, by decide⟩ (by decide) ?_
  refine P_aload_n d_Law_law_1409 rfl ?_
  refine P_iload d_Law_law_1410 rfl ?_
  refine P_iconst (v := 2) d_Law_law_1412 (by decide) ?_
  refine P_iadd d_Law_law_1413 ?_
  refine P_iald (j := 2) d_Law_law_1414 hs ⟨by decide, by decide⟩ (by decide) ?_
  refine P_callV (M := M_Law_law) (pc := 1415) (as := [.int (xs 1), .int (xs 2)]) (b := 0) d_Law_law_1415 co_CM_cutSides ok_CM (fa hC 28 rfl) L_Law_133 im_CM_cutSides se_CM_cutSides (z_CM_cutSides hC (xs 1) (xs 2)) rfl ⟨by decide, by decide⟩ ⟨by decide, by decide⟩ (by exact le_b rfl) ?_ _ rfl
  rintro _ _ ⟨rfl, rfl⟩
  show PW _ _ _ _ _ _ (1418, _, [.int (-1)], _)
  refine P_aload_n d_Law_law_1418 rfl ?_
  refine P_aload_n d_Law_law_1419 rfl ?_
  refine P_iload d_Law_law_1420 rfl ?_
  refine P_iconst (v := 1) d_Law_law_1422 (by decide) ?_
  refine P_iadd d_Law_law_1423 ?_
  refine P_iald (j := 1) d_Law_law_1424 hs ⟨by decide, by decide⟩ (by decide) ?_
  refine P_aload_n d_Law_law_1425 rfl ?_
  refine P_iload d_Law_law_1426 rfl ?_
  refine P_iconst (v := 2) d_Law_law_1428 (by decide) ?_
  refine P_iadd d_Law_law_1429 ?_
  refine P_iald (j := 2) d_Law_law_1430 hs ⟨by decide, by decide⟩ (by decide) ?_
  refine P_callV (M := M_Law_law) (pc := 1431) (as := [.int (xs 1), .int (xs 2)]) (b := 467) d_Law_law_1431 co_MD_cutSides ok_Model (fa hM 18 rfl) L_Law_136 im_MD_cutSides se_MD_cutSides (z_MD_cutSides hM (xs 1) (xs 2)) rfl ⟨by decide, by decide⟩ ⟨by decide, by decide⟩ (by exact le_b rfl) ?_ _ rfl
  rintro _ _ ⟨rfl, rfl⟩
  show PW _ _ _ _ _ _ (1434, _, [.int (-1), .int (-1)], _)
  refine P_icmp_eq 3371 d_Law_law_1434 (by decide) (fun _ => ?_) (fun h => absurd (by decide) h)
  show PW _ _ _ _ _ _ (3371, [(0, .ref 1000000), (1, .ref 0), (2, .ref 467), (3, .ref 486), (4, .int 0)], [], _)
  refine PW.wide (k' := 500) (n' := 12000) (le_b rfl) (le_b rfl) ?_
  exact PW.drop (lv' := lvE) (fun q hq => by simp only [lvE, List.mem_cons, List.not_mem_nil, or_false] at hq; rcases hq with rfl | rfl | rfl | rfl | rfl <;> simp [lvE]) (hend _)
theorem law_25 {G : pG} {w : pW} {xs : Nat → Int32} (hl : (g_l G).stackTraces = false) (hC : Has cfL w.2) (hM : Has mfL w.2) (hs : w.2 1000000 = .inl (0, 6, .inl xs)) (hx : w.1 < 1000000) (hend : ∀ w' : pW, PW G M_Law_law room_1 (QL G) 500 12000 (3371, lvE, [], w')) : PW G M_Law_law room_1 (QL G) 487 11543 (1439, lvE, [], w) := by
  refine P_aload_n d_Law_law_1439 rfl ?_
  refine P_aload_n d_Law_law_1440 rfl ?_
  refine P_iload d_Law_law_1441 rfl ?_
  refine P_iconst (v := 1) d_Law_law_1443 (by decide) ?_
  refine P_iadd d_Law_law_1444 ?_
  refine P_iald (j := 1) d_Law_law_1445 hs ⟨by decide, by decide⟩ (by decide) ?_
  refine P_callV (M := M_Law_law) (pc := 1446) (as := [.int (xs 1)]) (b := 0) d_Law_law_1446 co_CM_kind ok_CM (fa hC 28 rfl) L_Law_137 im_CM_kind se_CM_kind (z_CM_kind hC (xs 1)) rfl ⟨by decide, by decide⟩ ⟨by decide, by decide⟩ (by exact le_b rfl) ?_ _ rfl
  rintro _ _ ⟨rfl, rfl⟩
  show PW _ _ _ _ _ _ (1449, _, [.int (-1)], _)
  refine P_aload_n d_Law_law_1449 rfl ?_
  refine P_aload_n d_Law_law_1450 rfl ?_
  refine P_iload d_Law_law_1451 rfl ?_
  refine P_iconst (v := 1) d_Law_law_1453 (by decide) ?_
  refine P_iadd d_Law_law_1454 ?_
  refine P_iald (j := 1) d_Law_law_1455 hs ⟨by decide, by decide⟩ (by decide) ?_
  refine P_callV (M := M_Law_law) (pc := 1456) (as := [.int (xs 1)]) (b := 467) d_Law_law_1456 co_MD_kind ok_Model (fa hM 18 rfl) L_Law_140 im_MD_kind se_MD_kind (z_MD_kind hM (xs 1)) rfl ⟨by decide, by decide⟩ ⟨by decide, by decide⟩ (by exact le_b rfl) ?_ _ rfl
  rintro _ _ ⟨rfl, rfl⟩
  show PW _ _ _ _ _ _ (1459, _, [.int (-1), .int (-1)], _)
  refine P_icmp_eq 3371 d_Law_law_1459 (by decide) (fun _ => ?_) (fun h => absurd (by decide) h)
  show PW _ _ _ _ _ _ (3371, [(0, .ref 1000000), (1, .ref 0), (2, .ref 467), (3, .ref 486), (4, .int 0)], [], _)
  refine PW.wide (k' := 500) (n' := 12000) (le_b rfl) (le_b rfl) ?_
  exact PW.drop (lv' := lvE) (fun q hq => by simp only [lvE, List.mem_cons, List.not_mem_nil, or_false] at hq; rcases hq with rfl | rfl | rfl | rfl | rfl <;> simp [lvE]) (hend _)
theorem law_26 {G : pG} {w : pW} {xs : Nat → Int32} (hl : (g_l G).stackTraces = false) (hC : Has cfL w.2) (hM : Has mfL w.2) (hs : w.2 1000000 = .inl (0, 6, .inl xs)) (hx : w.1 < 1000000) (hend : ∀ w' : pW, PW G M_Law_law room_1 (QL G) 500 12000 (3371, lvE, [], w')) : PW G M_Law_law room_1 (QL G) 487 11543 (1464, lvE, [], w) := by
  refine P_aload_n d_Law_law_1464 rfl ?_
  refine P_aload_n d_Law_law_1465 rfl ?_
  refine P_iload d_Law_law_1466 rfl ?_
  refine P_iconst (v := 1) d_Law_law_1468 (by decide) ?_
  refine P_iadd d_Law_law_1469 ?_
  refine P_iald (j := 1) d_Law_law_1470 hs ⟨by decide, by decide⟩ (by decide) ?_
  refine P_callV (M := M_Law_law) (pc := 1471) (as := [.int (xs 1)]) (b := 0) d_Law_law_1471 co_CM_turn ok_CM (fa hC 28 rfl) L_Law_141 im_CM_turn se_CM_turn (z_CM_turn hC (xs 1)) rfl ⟨by decide, by decide⟩ ⟨by decide, by decide⟩ (by exact le_b rfl) ?_ _ rfl
  rintro _ _ ⟨rfl, rfl⟩
  show PW _ _ _ _ _ _ (1474, _, [.int 0], _)
  refine P_aload_n d_Law_law_1474 rfl ?_
  refine P_aload_n d_Law_law_1475 rfl ?_
  refine P_iload d_Law_law_1476 rfl ?_
  refine P_iconst (v := 1) d_Law_law_1478 (by decide) ?_
  refine P_iadd d_Law_law_1479 ?_
  refine P_iald (j := 1) d_Law_law_1480 hs ⟨by decide, by decide⟩ (by decide) ?_
  refine P_callV (M := M_Law_law) (pc := 1481) (as := [.int (xs 1)]) (b := 467) d_Law_law_1481 co_MD_turn ok_Model (fa hM 18 rfl) L_Law_144 im_MD_turn se_MD_turn (z_MD_turn hM (xs 1)) rfl ⟨by decide, by decide⟩ ⟨by decide, by decide⟩ (by exact le_b rfl) ?_ _ rfl
  rintro _ _ ⟨rfl, rfl⟩
  show PW _ _ _ _ _ _ (1484, _, [.int 0, .int 0], _)
  refine P_icmp_eq 3371 d_Law_law_1484 (by decide) (fun _ => ?_) (fun h => absurd (by decide) h)
  show PW _ _ _ _ _ _ (3371, [(0, .ref 1000000), (1, .ref 0), (2, .ref 467), (3, .ref 486), (4, .int 0)], [], _)
  refine PW.wide (k' := 500) (n' := 12000) (le_b rfl) (le_b rfl) ?_
  exact PW.drop (lv' := lvE) (fun q hq => by simp only [lvE, List.mem_cons, List.not_mem_nil, or_false] at hq; rcases hq with rfl | rfl | rfl | rfl | rfl <;> simp [lvE]) (hend _)
theorem law_27 {G : pG} {w : pW} {xs : Nat → Int32} (hl : (g_l G).stackTraces = false) (hC : Has cfL w.2) (hM : Has mfL w.2) (hs : w.2 1000000 = .inl (0, 6, .inl xs)) (hx : w.1 < 1000000) (hend : ∀ w' : pW, PW G M_Law_law room_1 (QL G) 500 12000 (3371, lvE, [], w')) : PW G M_Law_law room_1 (QL G) 487 11543 (1489, lvE, [], w) := by
  refine P_aload_n d_Law_law_1489 rfl ?_
  refine P_aload_n d_Law_law_1490 rfl ?_
  refine P_iload d_Law_law_1491 rfl ?_
  refine P_iconst (v := 1) d_Law_law_1493 (by decide) ?_
  refine P_iadd d_Law_law_1494 ?_
  refine P_iald (j := 1) d_Law_law_1495 hs ⟨by decide, by decide⟩ (by decide) ?_
  refine P_callV (M := M_Law_law) (pc := 1496) (as := [.int (xs 1)]) (b := 0) d_Law_law_1496 co_CM_order ok_CM (fa hC 28 rfl) L_Law_145 im_CM_order se_CM_order (z_CM_order hC (xs 1)) rfl ⟨by decide, by decide⟩ ⟨by decide, by decide⟩ (by exact le_b rfl) ?_ _ rfl
  rintro _ _ ⟨rfl, rfl⟩
  show PW _ _ _ _ _ _ (1499, _, [.int (-1)], _)
  refine P_aload_n d_Law_law_1499 rfl ?_
  refine P_aload_n d_Law_law_1500 rfl ?_
  refine P_iload d_Law_law_1501 rfl ?_
  refine P_iconst (v := 1) d_Law_law_1503 (by decide) ?_
  refine P_iadd d_Law_law_1504 ?_
  refine P_iald (j := 1) d_Law_law_1505 hs ⟨by decide, by decide⟩ (by decide) ?_
  refine P_callV (M := M_Law_law) (pc := 1506) (as := [.int (xs 1)]) (b := 467) d_Law_law_1506 co_MD_order ok_Model (fa hM 18 rfl) L_Law_148 im_MD_order se_MD_order (z_MD_order hM (xs 1)) rfl ⟨by decide, by decide⟩ ⟨by decide, by decide⟩ (by exact le_b rfl) ?_ _ rfl
  rintro _ _ ⟨rfl, rfl⟩
  show PW _ _ _ _ _ _ (1509, _, [.int (-1), .int (-1)], _)
  refine P_icmp_eq 3371 d_Law_law_1509 (by decide) (fun _ => ?_) (fun h => absurd (by decide) h)
  show PW _ _ _ _ _ _ (3371, [(0, .ref 1000000), (1, .ref 0), (2, .ref 467), (3, .ref 486), (4, .int 0)], [], _)
  refine PW.wide (k' := 500) (n' := 12000) (le_b rfl) (le_b rfl) ?_
  exact PW.drop (lv' := lvE) (fun q hq => by simp only [lvE, List.mem_cons, List.not_mem_nil, or_false] at hq; rcases hq with rfl | rfl | rfl | rfl | rfl <;> simp [lvE]) (hend _)
theorem law_28 {G : pG} {w : pW} {xs : Nat → Int32} (hl : (g_l G).stackTraces = false) (hC : Has cfL w.2) (hM : Has mfL w.2) (hs : w.2 1000000 = .inl (0, 6, .inl xs)) (hx : w.1 < 1000000) (hend : ∀ w' : pW, PW G M_Law_law room_1 (QL G) 500 12000 (3371, lvE, [], w')) : PW G M_Law_law room_1 (QL G) 487 11543 (1514, lvE, [], w) := by
  refine P_aload_n d_Law_law_1514 rfl ?_
  refine P_aload_n d_Law_law_1515 rfl ?_
  refine P_iload d_Law_law_1516 rfl ?_
  refine P_iconst (v := 1) d_Law_law_1518 (by decide) ?_
  refine P_iadd d_Law_law_1519 ?_
  refine P_iald (j := 1) d_Law_law_1520 hs ⟨by decide, by decide⟩ (by decide) ?_
  refine P_aload_n d_Law_law_1521 rfl ?_
  refine P_iload d_Law_law_1522 rfl ?_
  refine P_iconst (v := 2) d_Law_law_1524 (by decide) ?_
  refine P_iadd d_Law_law_1525 ?_
  refine P_iald (j := 2) d_Law_law_1526 hs ⟨by decide, by decide⟩ (by decide) ?_
  refine P_callV (M := M_Law_law) (pc := 1527) (as := [.int (xs 1), .int (xs 2)]) (b := 0) d_Law_law_1527 co_CM_same ok_CM (fa hC 28 rfl) L_Law_149 im_CM_same se_CM_same (z_CM_same hC (xs 1) (xs 2)) rfl ⟨by decide, by decide⟩ ⟨by decide, by decide⟩ (by exact le_b rfl) ?_ _ rfl
  rintro _ _ ⟨rfl, rfl⟩
  show PW _ _ _ _ _ _ (1530, _, [.int (-1)], _)
  refine P_aload_n d_Law_law_1530 rfl ?_
  refine P_aload_n d_Law_law_1531 rfl ?_
  refine P_iload d_Law_law_1532 rfl ?_
  refine P_iconst (v := 1) d_Law_law_1534 (by decide) ?_
  refine P_iadd d_Law_law_1535 ?_
  refine P_iald (j := 1) d_Law_law_1536 hs ⟨by decide, by decide⟩ (by decide) ?_
  refine P_aload_n d_Law_law_1537 rfl ?_
  refine P_iload d_Law_law_1538 rfl ?_
  refine P_iconst (v := 2) d_Law_law_1540 (by decide) ?_
  refine P_iadd d_Law_law_1541 ?_
  refine P_iald (j := 2) d_Law_law_1542 hs ⟨by decide, by decide⟩ (by decide) ?_
  refine P_callV (M := M_Law_law) (pc := 1543) (as := [.int (xs 1), .int (xs 2)]) (b := 467) d_Law_law_1543 co_MD_same ok_Model (fa hM 18 rfl) L_Law_152 im_MD_same se_MD_same (z_MD_same hM (xs 1) (xs 2)) rfl ⟨by decide, by decide⟩ ⟨by decide, by decide⟩ (by exact le_b rfl) ?_ _ rfl
  rintro _ _ ⟨rfl, rfl⟩
  show PW _ _ _ _ _ _ (1546, _, [.int (-1), .int (-1)], _)
  refine P_icmp_eq 3371 d_Law_law_1546 (by decide) (fun _ => ?_) (fun h => absurd (by decide) h)
  show PW _ _ _ _ _ _ (3371, [(0, .ref 1000000), (1, .ref 0), (2, .ref 467), (3, .ref 486), (4, .int 0)], [], _)
  refine PW.wide (k' := 500) (n' := 12000) (le_b rfl) (le_b rfl) ?_
  exact PW.drop (lv' := lvE) (fun q hq => by simp only [lvE, List.mem_cons, List.not_mem_nil, or_false] at hq; rcases hq with rfl | rfl | rfl | rfl | rfl <;> simp [lvE]) (hend _)
theorem law_29 {G : pG} {w : pW} {xs : Nat → Int32} (hl : (g_l G).stackTraces = false) (hC : Has cfL w.2) (hM : Has mfL w.2) (hs : w.2 1000000 = .inl (0, 6, .inl xs)) (hx : w.1 < 1000000) (hend : ∀ w' : pW, PW G M_Law_law room_1 (QL G) 500 12000 (3371, lvE, [], w')) : PW G M_Law_law room_1 (QL G) 487 11543 (1551, lvE, [], w) := by
  refine P_aload_n d_Law_law_1551 rfl ?_
  refine P_aload_n d_Law_law_1552 rfl ?_
  refine P_iload d_Law_law_1553 rfl ?_
  refine P_iconst (v := 1) d_Law_law_1555 (by decide) ?_
  refine P_iadd d_Law_law_1556 ?_
  refine P_iald (j := 1) d_Law_law_1557 hs ⟨by decide, by decide⟩ (by decide) ?_
  refine P_aload_n d_Law_law_1558 rfl ?_
  refine P_iload d_Law_law_1559 rfl ?_
  refine P_iconst (v := 2) d_Law_law_1561 (by decide) ?_
  refine P_iadd d_Law_law_1562 ?_
  refine P_iald (j := 2) d_Law_law_1563 hs ⟨by decide, by decide⟩ (by decide) ?_
  refine P_callV (M := M_Law_law) (pc := 1564) (as := [.int (xs 1), .int (xs 2)]) (b := 0) d_Law_law_1564 co_CM_commute ok_CM (fa hC 28 rfl) L_Law_153 im_CM_commute se_CM_commute (z_CM_commute hC (xs 1) (xs 2)) rfl ⟨by decide, by decide⟩ ⟨by decide, by decide⟩ (by exact le_b rfl) ?_ _ rfl
  rintro _ _ ⟨rfl, rfl⟩
  show PW _ _ _ _ _ _ (1567, _, [.int (-1)], _)
  refine P_aload_n d_Law_law_1567 rfl ?_
  refine P_aload_n d_Law_law_1568 rfl ?_
  refine P_iload d_Law_law_1569 rfl ?_
  refine P_iconst (v := 1) d_Law_law_1571 (by decide) ?_
  refine P_iadd d_Law_law_1572 ?_
  refine P_iald (j := 1) d_Law_law_1573 hs ⟨by decide, by decide⟩ (by decide) ?_
  refine P_aload_n d_Law_law_1574 rfl ?_
  refine P_iload d_Law_law_1575 rfl ?_
  refine P_iconst (v := 2) d_Law_law_1577 (by decide) ?_
  refine P_iadd d_Law_law_1578 ?_
  refine P_iald (j := 2) d_Law_law_1579 hs ⟨by decide, by decide⟩ (by decide) ?_
  refine P_callV (M := M_Law_law) (pc := 1580) (as := [.int (xs 1), .int (xs 2)]) (b := 467) d_Law_law_1580 co_MD_commute ok_Model (fa hM 18 rfl) L_Law_156 im_MD_commute se_MD_commute (z_MD_commute hM (xs 1) (xs 2)) rfl ⟨by decide, by decide⟩ ⟨by decide, by decide⟩ (by exact le_b rfl) ?_ _ rfl
  rintro _ _ ⟨rfl, rfl⟩
  show PW _ _ _ _ _ _ (1583, _, [.int (-1), .int (-1)], _)
  refine P_icmp_eq 3371 d_Law_law_1583 (by decide) (fun _ => ?_) (fun h => absurd (by decide) h)
  show PW _ _ _ _ _ _ (3371, [(0, .ref 1000000), (1, .ref 0), (2, .ref 467), (3, .ref 486), (4, .int 0)], [], _)
  refine PW.wide (k' := 500) (n' := 12000) (le_b rfl) (le_b rfl) ?_
  exact PW.drop (lv' := lvE) (fun q hq => by simp only [lvE, List.mem_cons, List.not_mem_nil, or_false] at hq; rcases hq with rfl | rfl | rfl | rfl | rfl <;> simp [lvE]) (hend _)
theorem law_30 {G : pG} {w : pW} {xs : Nat → Int32} (hl : (g_l G).stackTraces = false) (hC : Has cfL w.2) (hM : Has mfL w.2) (hs : w.2 1000000 = .inl (0, 6, .inl xs)) (hx : w.1 < 1000000) (hend : ∀ w' : pW, PW G M_Law_law room_1 (QL G) 500 12000 (3371, lvE, [], w')) : PW G M_Law_law room_1 (QL G) 487 11543 (1588, lvE, [], w) := by
  refine P_aload_n d_Law_law_1588 rfl ?_
  refine P_aload_n d_Law_law_1589 rfl ?_
  refine P_iload d_Law_law_1590 rfl ?_
  refine P_iconst (v := 1) d_Law_law_1592 (by decide) ?_
  refine P_iadd d_Law_law_1593 ?_
  refine P_iald (j := 1) d_Law_law_1594 hs ⟨by decide, by decide⟩ (by decide) ?_
  refine P_aload_n d_Law_law_1595 rfl ?_
  refine P_iload d_Law_law_1596 rfl ?_
  refine P_iconst (v := 2) d_Law_law_1598 (by decide) ?_
  refine P_iadd d_Law_law_1599 ?_
  refine P_iald (j := 2) d_Law_law_1600 hs ⟨by decide, by decide⟩ (by decide) ?_
  refine P_callV (M := M_Law_law) (pc := 1601) (as := [.int (xs 1), .int (xs 2)]) (b := 0) d_Law_law_1601 co_CM_undoes ok_CM (fa hC 28 rfl) L_Law_157 im_CM_undoes se_CM_undoes (z_CM_undoes hC (xs 1) (xs 2)) rfl ⟨by decide, by decide⟩ ⟨by decide, by decide⟩ (by exact le_b rfl) ?_ _ rfl
  rintro _ _ ⟨rfl, rfl⟩
  show PW _ _ _ _ _ _ (1604, _, [.int (-1)], _)
  refine P_aload_n d_Law_law_1604 rfl ?_
  refine P_aload_n d_Law_law_1605 rfl ?_
  refine P_iload d_Law_law_1606 rfl ?_
  refine P_iconst (v := 1) d_Law_law_1608 (by decide) ?_
  refine P_iadd d_Law_law_1609 ?_
  refine P_iald (j := 1) d_Law_law_1610 hs ⟨by decide, by decide⟩ (by decide) ?_
  refine P_aload_n d_Law_law_1611 rfl ?_
  refine P_iload d_Law_law_1612 rfl ?_
  refine P_iconst (v := 2) d_Law_law_1614 (by decide) ?_
  refine P_iadd d_Law_law_1615 ?_
  refine P_iald (j := 2) d_Law_law_1616 hs ⟨by decide, by decide⟩ (by decide) ?_
  refine P_callV (M := M_Law_law) (pc := 1617) (as := [.int (xs 1), .int (xs 2)]) (b := 467) d_Law_law_1617 co_MD_undoes ok_Model (fa hM 18 rfl) L_Law_160 im_MD_undoes se_MD_undoes (z_MD_undoes hM (xs 1) (xs 2)) rfl ⟨by decide, by decide⟩ ⟨by decide, by decide⟩ (by exact le_b rfl) ?_ _ rfl
  rintro _ _ ⟨rfl, rfl⟩
  show PW _ _ _ _ _ _ (1620, _, [.int (-1), .int (-1)], _)
  refine P_icmp_eq 3371 d_Law_law_1620 (by decide) (fun _ => ?_) (fun h => absurd (by decide) h)
  show PW _ _ _ _ _ _ (3371, [(0, .ref 1000000), (1, .ref 0), (2, .ref 467), (3, .ref 486), (4, .int 0)], [], _)
  refine PW.wide (k' := 500) (n' := 12000) (le_b rfl) (le_b rfl) ?_
  exact PW.drop (lv' := lvE) (fun q hq => by simp only [lvE, List.mem_cons, List.not_mem_nil, or_false] at hq; rcases hq with rfl | rfl | rfl | rfl | rfl <;> simp [lvE]) (hend _)
theorem law_31 {G : pG} {w : pW} {xs : Nat → Int32} (hl : (g_l G).stackTraces = false) (hC : Has cfL w.2) (hM : Has mfL w.2) (hs : w.2 1000000 = .inl (0, 6, .inl xs)) (hx : w.1 < 1000000) (hend : ∀ w' : pW, PW G M_Law_law room_1 (QL G) 500 12000 (3371, lvE, [], w')) : PW G M_Law_law room_1 (QL G) 487 11543 (1625, lvE, [], w) := by
  refine P_aload_n d_Law_law_1625 rfl ?_
  refine P_aload_n d_Law_law_1626 rfl ?_
  refine P_iload d_Law_law_1627 rfl ?_
  refine P_iconst (v := 1) d_Law_law_1629 (by decide) ?_
  refine P_iadd d_Law_law_1630 ?_
  refine P_iald (j := 1) d_Law_law_1631 hs ⟨by decide, by decide⟩ (by decide) ?_
  refine P_aload_n d_Law_law_1632 rfl ?_
  refine P_iload d_Law_law_1633 rfl ?_
  refine P_iconst (v := 2) d_Law_law_1635 (by decide) ?_
  refine P_iadd d_Law_law_1636 ?_
  refine P_iald (j := 2) d_Law_law_1637 hs ⟨by decide, by decide⟩ (by decide) ?_
  refine P_callV (M := M_Law_law) (pc := 1638) (as := [.int (xs 1), .int (xs 2)]) (b := 0) d_Law_law_1638 co_CM_stays ok_CM (fa hC 28 rfl) L_Law_161 im_CM_stays se_CM_stays (z_CM_stays hC (xs 1) (xs 2)) rfl ⟨by decide, by decide⟩ ⟨by decide, by decide⟩ (by exact le_b rfl) ?_ _ rfl
  rintro _ _ ⟨rfl, rfl⟩
  show PW _ _ _ _ _ _ (1641, _, [.int (-1)], _)
  refine P_aload_n d_Law_law_1641 rfl ?_
  refine P_aload_n d_Law_law_1642 rfl ?_
  refine P_iload d_Law_law_1643 rfl ?_
  refine P_iconst (v := 1) d_Law_law_1645 (by decide) ?_
  refine P_iadd d_Law_law_1646 ?_
  refine P_iald (j := 1) d_Law_law_1647 hs ⟨by decide, by decide⟩ (by decide) ?_
  refine P_aload_n d_Law_law_1648 rfl ?_
  refine P_iload d_Law_law_1649 rfl ?_
  refine P_iconst (v := 2) d_Law_law_1651 (by decide) ?_
  refine P_iadd d_Law_law_1652 ?_
  refine P_iald (j := 2) d_Law_law_1653 hs ⟨by decide, by decide⟩ (by decide) ?_
  refine P_callV (M := M_Law_law) (pc := 1654) (as := [.int (xs 1), .int (xs 2)]) (b := 467) d_Law_law_1654 co_MD_stays ok_Model (fa hM 18 rfl) L_Law_164 im_MD_stays se_MD_stays (z_MD_stays hM (xs 1) (xs 2)) rfl ⟨by decide, by decide⟩ ⟨by decide, by decide⟩ (by exact le_b rfl) ?_ _ rfl
  rintro _ _ ⟨rfl, rfl⟩
  show PW _ _ _ _ _ _ (1657, _, [.int (-1), .int (-1)], _)
  refine P_icmp_eq 3371 d_Law_law_1657 (by decide) (fun _ => ?_) (fun h => absurd (by decide) h)
  show PW _ _ _ _ _ _ (3371, [(0, .ref 1000000), (1, .ref 0), (2, .ref 467), (3, .ref 486), (4, .int 0)], [], _)
  refine PW.wide (k' := 500) (n' := 12000) (le_b rfl) (le_b rfl) ?_
  exact PW.drop (lv' := lvE) (fun q hq => by simp only [lvE, List.mem_cons, List.not_mem_nil, or_false] at hq; rcases hq with rfl | rfl | rfl | rfl | rfl <;> simp [lvE]) (hend _)
theorem law_32 {G : pG} {w : pW} {xs : Nat → Int32} (hl : (g_l G).stackTraces = false) (hC : Has cfL w.2) (hM : Has mfL w.2) (hs : w.2 1000000 = .inl (0, 6, .inl xs)) (hx : w.1 < 1000000) (hend : ∀ w' : pW, PW G M_Law_law room_1 (QL G) 500 12000 (3371, lvE, [], w')) : PW G M_Law_law room_1 (QL G) 487 11543 (1662, lvE, [], w) := by
  refine P_aload_n d_Law_law_1662 rfl ?_
  refine P_aload_n d_Law_law_1663 rfl ?_
  refine P_iload d_Law_law_1664 rfl ?_
  refine P_iconst (v := 1) d_Law_law_1666 (by decide) ?_
  refine P_iadd d_Law_law_1667 ?_
  refine P_iald (j := 1) d_Law_law_1668 hs ⟨by decide, by decide⟩ (by decide) ?_
  refine P_aload_n d_Law_law_1669 rfl ?_
  refine P_iload d_Law_law_1670 rfl ?_
  refine P_iconst (v := 2) d_Law_law_1672 (by decide) ?_
  refine P_iadd d_Law_law_1673 ?_
  refine P_iald (j := 2) d_Law_law_1674 hs ⟨by decide, by decide⟩ (by decide) ?_
  refine P_callV (M := M_Law_law) (pc := 1675) (as := [.int (xs 1), .int (xs 2)]) (b := 0) d_Law_law_1675 co_CM_points ok_CM (fa hC 28 rfl) L_Law_165 im_CM_points se_CM_points (z_CM_points hC (xs 1) (xs 2)) rfl ⟨by decide, by decide⟩ ⟨by decide, by decide⟩ (by exact le_b rfl) ?_ _ rfl
  rintro _ _ ⟨rfl, rfl⟩
  show PW _ _ _ _ _ _ (1678, _, [.int (-1)], _)
  refine P_aload_n d_Law_law_1678 rfl ?_
  refine P_aload_n d_Law_law_1679 rfl ?_
  refine P_iload d_Law_law_1680 rfl ?_
  refine P_iconst (v := 1) d_Law_law_1682 (by decide) ?_
  refine P_iadd d_Law_law_1683 ?_
  refine P_iald (j := 1) d_Law_law_1684 hs ⟨by decide, by decide⟩ (by decide) ?_
  refine P_aload_n d_Law_law_1685 rfl ?_
  refine P_iload d_Law_law_1686 rfl ?_
  refine P_iconst (v := 2) d_Law_law_1688 (by decide) ?_
  refine P_iadd d_Law_law_1689 ?_
  refine P_iald (j := 2) d_Law_law_1690 hs ⟨by decide, by decide⟩ (by decide) ?_
  refine P_callV (M := M_Law_law) (pc := 1691) (as := [.int (xs 1), .int (xs 2)]) (b := 467) d_Law_law_1691 co_MD_points ok_Model (fa hM 18 rfl) L_Law_168 im_MD_points se_MD_points (z_MD_points hM (xs 1) (xs 2)) rfl ⟨by decide, by decide⟩ ⟨by decide, by decide⟩ (by exact le_b rfl) ?_ _ rfl
  rintro _ _ ⟨rfl, rfl⟩
  show PW _ _ _ _ _ _ (1694, _, [.int (-1), .int (-1)], _)
  refine P_icmp_eq 3371 d_Law_law_1694 (by decide) (fun _ => ?_) (fun h => absurd (by decide) h)
  show PW _ _ _ _ _ _ (3371, [(0, .ref 1000000), (1, .ref 0), (2, .ref 467), (3, .ref 486), (4, .int 0)], [], _)
  refine PW.wide (k' := 500) (n' := 12000) (le_b rfl) (le_b rfl) ?_
  exact PW.drop (lv' := lvE) (fun q hq => by simp only [lvE, List.mem_cons, List.not_mem_nil, or_false] at hq; rcases hq with rfl | rfl | rfl | rfl | rfl <;> simp [lvE]) (hend _)
theorem law_33 {G : pG} {w : pW} {xs : Nat → Int32} (hl : (g_l G).stackTraces = false) (hC : Has cfL w.2) (hM : Has mfL w.2) (hs : w.2 1000000 = .inl (0, 6, .inl xs)) (hx : w.1 < 1000000) (hend : ∀ w' : pW, PW G M_Law_law room_1 (QL G) 500 12000 (3371, lvE, [], w')) : PW G M_Law_law room_1 (QL G) 487 11543 (1699, lvE, [], w) := by
  refine P_aload_n d_Law_law_1699 rfl ?_
  refine P_aload_n d_Law_law_1700 rfl ?_
  refine P_iload d_Law_law_1701 rfl ?_
  refine P_iconst (v := 1) d_Law_law_1703 (by decide) ?_
  refine P_iadd d_Law_law_1704 ?_
  refine P_iald (j := 1) d_Law_law_1705 hs ⟨by decide, by decide⟩ (by decide) ?_
  refine P_aload_n d_Law_law_1706 rfl ?_
  refine P_iload d_Law_law_1707 rfl ?_
  refine P_iconst (v := 2) d_Law_law_1709 (by decide) ?_
  refine P_iadd d_Law_law_1710 ?_
  refine P_iald (j := 2) d_Law_law_1711 hs ⟨by decide, by decide⟩ (by decide) ?_
  refine P_aload_n d_Law_law_1712 rfl ?_
  refine P_iload d_Law_law_1713 rfl ?_
  refine P_iconst (v := 3) d_Law_law_1715 (by decide) ?_
  refine P_iadd d_Law_law_1716 ?_
  refine P_iald (j := 3) d_Law_law_1717 hs ⟨by decide, by decide⟩ (by decide) ?_
  refine P_callV (M := M_Law_law) (pc := 1718) (as := [.int (xs 1), .int (xs 2), .int (xs 3)]) (b := 0) d_Law_law_1718 co_CM_join ok_CM (fa hC 28 rfl) L_Law_169 im_CM_join se_CM_join (z_CM_join hC (xs 1) (xs 2) (xs 3)) rfl ⟨by decide, by decide⟩ ⟨by decide, by decide⟩ (by exact le_b rfl) ?_ _ rfl
  rintro _ _ ⟨rfl, rfl⟩
  show PW _ _ _ _ _ _ (1721, _, [.long (-9223372036854775808)], _)
  refine P_aload_n d_Law_law_1721 rfl ?_
  refine P_aload_n d_Law_law_1722 rfl ?_
  refine P_iload d_Law_law_1723 rfl ?_
  refine P_iconst (v := 1) d_Law_law_1725 (by decide) ?_
  refine P_iadd d_Law_law_1726 ?_
  refine P_iald (j := 1) d_Law_law_1727 hs ⟨by decide, by decide⟩ (by decide) ?_
  refine P_aload_n d_Law_law_1728 rfl ?_
  refine P_iload d_Law_law_1729 rfl ?_
  refine P_iconst (v := 2) d_Law_law_1731 (by decide) ?_
  refine P_iadd d_Law_law_1732 ?_
  refine P_iald (j := 2) d_Law_law_1733 hs ⟨by decide, by decide⟩ (by decide) ?_
  refine P_aload_n d_Law_law_1734 rfl ?_
  refine P_iload d_Law_law_1735 rfl ?_
  refine P_iconst (v := 3) d_Law_law_1737 (by decide) ?_
  refine P_iadd d_Law_law_1738 ?_
  refine P_iald (j := 3) d_Law_law_1739 hs ⟨by decide, by decide⟩ (by decide) ?_
  refine P_callV (M := M_Law_law) (pc := 1740) (as := [.int (xs 1), .int (xs 2), .int (xs 3)]) (b := 467) d_Law_law_1740 co_MD_join ok_Model (fa hM 18 rfl) L_Law_173 im_MD_join se_MD_join (z_MD_join hM (xs 1) (xs 2) (xs 3)) rfl ⟨by decide, by decide⟩ ⟨by decide, by decide⟩ (by exact le_b rfl) ?_ _ rfl
  rintro _ _ ⟨rfl, rfl⟩
  show PW _ _ _ _ _ _ (1743, _, [.long (-9223372036854775808), .long (-9223372036854775808)], _)
  refine P_lcmp d_Law_law_1743 ?_
  refine P_if_eq 3371 d_Law_law_1744 (by decide) (fun _ => ?_) (fun h => absurd (by decide) h)
  show PW _ _ _ _ _ _ (3371, [(0, .ref 1000000), (1, .ref 0), (2, .ref 467), (3, .ref 486), (4, .int 0)], [], _)
  refine PW.wide (k' := 500) (n' := 12000) (le_b rfl) (le_b rfl) ?_
  exact PW.drop (lv' := lvE) (fun q hq => by simp only [lvE, List.mem_cons, List.not_mem_nil, or_false] at hq; rcases hq with rfl | rfl | rfl | rfl | rfl <;> simp [lvE]) (hend _)
theorem law_34 {G : pG} {w : pW} {xs : Nat → Int32} (hl : (g_l G).stackTraces = false) (hC : Has cfL w.2) (hM : Has mfL w.2) (hs : w.2 1000000 = .inl (0, 6, .inl xs)) (hx : w.1 < 1000000) (hend : ∀ w' : pW, PW G M_Law_law room_1 (QL G) 500 12000 (3371, lvE, [], w')) : PW G M_Law_law room_1 (QL G) 487 11543 (1749, lvE, [], w) := by
  refine P_aload_n d_Law_law_1749 rfl ?_
  refine P_aload_n d_Law_law_1750 rfl ?_
  refine P_iload d_Law_law_1751 rfl ?_
  refine P_iconst (v := 1) d_Law_law_1753 (by decide) ?_
  refine P_iadd d_Law_law_1754 ?_
  refine P_iald (j := 1) d_Law_law_1755 hs ⟨by decide, by decide⟩ (by decide) ?_
  refine P_aload_n d_Law_law_1756 rfl ?_
  refine P_iload d_Law_law_1757 rfl ?_
  refine P_iconst (v := 2) d_Law_law_1759 (by decide) ?_
  refine P_iadd d_Law_law_1760 ?_
  refine P_iald (j := 2) d_Law_law_1761 hs ⟨by decide, by decide⟩ (by decide) ?_
  refine P_aload_n d_Law_law_1762 rfl ?_
  refine P_iload d_Law_law_1763 rfl ?_
  refine P_iconst (v := 3) d_Law_law_1765 (by decide) ?_
  refine P_iadd d_Law_law_1766 ?_
  refine P_iald (j := 3) d_Law_law_1767 hs ⟨by decide, by decide⟩ (by decide) ?_
  refine P_callV (M := M_Law_law) (pc := 1768) (as := [.int (xs 1), .int (xs 2), .int (xs 3)]) (b := 0) d_Law_law_1768 co_CM_inLine ok_CM (fa hC 28 rfl) L_Law_174 im_CM_inLine se_CM_inLine (z_CM_inLine hC (xs 1) (xs 2) (xs 3)) rfl ⟨by decide, by decide⟩ ⟨by decide, by decide⟩ (by exact le_b rfl) ?_ _ rfl
  rintro _ _ ⟨rfl, rfl⟩
  show PW _ _ _ _ _ _ (1771, _, [.int (-1)], _)
  refine P_aload_n d_Law_law_1771 rfl ?_
  refine P_aload_n d_Law_law_1772 rfl ?_
  refine P_iload d_Law_law_1773 rfl ?_
  refine P_iconst (v := 1) d_Law_law_1775 (by decide) ?_
  refine P_iadd d_Law_law_1776 ?_
  refine P_iald (j := 1) d_Law_law_1777 hs ⟨by decide, by decide⟩ (by decide) ?_
  refine P_aload_n d_Law_law_1778 rfl ?_
  refine P_iload d_Law_law_1779 rfl ?_
  refine P_iconst (v := 2) d_Law_law_1781 (by decide) ?_
  refine P_iadd d_Law_law_1782 ?_
  refine P_iald (j := 2) d_Law_law_1783 hs ⟨by decide, by decide⟩ (by decide) ?_
  refine P_aload_n d_Law_law_1784 rfl ?_
  refine P_iload d_Law_law_1785 rfl ?_
  refine P_iconst (v := 3) d_Law_law_1787 (by decide) ?_
  refine P_iadd d_Law_law_1788 ?_
  refine P_iald (j := 3) d_Law_law_1789 hs ⟨by decide, by decide⟩ (by decide) ?_
  refine P_callV (M := M_Law_law) (pc := 1790) (as := [.int (xs 1), .int (xs 2), .int (xs 3)]) (b := 467) d_Law_law_1790 co_MD_inLine ok_Model (fa hM 18 rfl) L_Law_177 im_MD_inLine se_MD_inLine (z_MD_inLine hM (xs 1) (xs 2) (xs 3)) rfl ⟨by decide, by decide⟩ ⟨by decide, by decide⟩ (by exact le_b rfl) ?_ _ rfl
  rintro _ _ ⟨rfl, rfl⟩
  show PW _ _ _ _ _ _ (1793, _, [.int (-1), .int (-1)], _)
  refine P_icmp_eq 3371 d_Law_law_1793 (by decide) (fun _ => ?_) (fun h => absurd (by decide) h)
  show PW _ _ _ _ _ _ (3371, [(0, .ref 1000000), (1, .ref 0), (2, .ref 467), (3, .ref 486), (4, .int 0)], [], _)
  refine PW.wide (k' := 500) (n' := 12000) (le_b rfl) (le_b rfl) ?_
  exact PW.drop (lv' := lvE) (fun q hq => by simp only [lvE, List.mem_cons, List.not_mem_nil, or_false] at hq; rcases hq with rfl | rfl | rfl | rfl | rfl <;> simp [lvE]) (hend _)
theorem law_35 {G : pG} {w : pW} {xs : Nat → Int32} (hl : (g_l G).stackTraces = false) (hC : Has cfL w.2) (hM : Has mfL w.2) (hs : w.2 1000000 = .inl (0, 6, .inl xs)) (hx : w.1 < 1000000) (hend : ∀ w' : pW, PW G M_Law_law room_1 (QL G) 500 12000 (3371, lvE, [], w')) : PW G M_Law_law room_1 (QL G) 487 11543 (1798, lvE, [], w) := by
  refine P_aload_n d_Law_law_1798 rfl ?_
  refine P_aload_n d_Law_law_1799 rfl ?_
  refine P_iload d_Law_law_1800 rfl ?_
  refine P_iconst (v := 1) d_Law_law_1802 (by decide) ?_
  refine P_iadd d_Law_law_1803 ?_
  refine P_iald (j := 1) d_Law_law_1804 hs ⟨by decide, by decide⟩ (by decide) ?_
  refine P_aload_n d_Law_law_1805 rfl ?_
  refine P_iload d_Law_law_1806 rfl ?_
  refine P_iconst (v := 2) d_Law_law_1808 (by decide) ?_
  refine P_iadd d_Law_law_1809 ?_
  refine P_iald (j := 2) d_Law_law_1810 hs ⟨by decide, by decide⟩ (by decide) ?_
  refine P_aload_n d_Law_law_1811 rfl ?_
  refine P_iload d_Law_law_1812 rfl ?_
  refine P_iconst (v := 3) d_Law_law_1814 (by decide) ?_
  refine P_iadd d_Law_law_1815 ?_
  refine P_iald (j := 3) d_Law_law_1816 hs ⟨by decide, by decide⟩ (by decide) ?_
  refine P_aload_n d_Law_law_1817 rfl ?_
  refine P_iload d_Law_law_1818 rfl ?_
  refine P_iconst (v := 4) d_Law_law_1820 (by decide) ?_
  refine P_iadd d_Law_law_1821 ?_
  refine P_iald (j := 4) d_Law_law_1822 hs ⟨by decide, by decide⟩ (by decide) ?_
  refine P_aload_n d_Law_law_1823 rfl ?_
  refine P_iload d_Law_law_1824 rfl ?_
  refine P_iconst (v := 5) d_Law_law_1826 (by decide) ?_
  refine P_iadd d_Law_law_1827 ?_
  refine P_iald (j := 5) d_Law_law_1828 hs ⟨by decide, by decide⟩ (by decide) ?_
  refine P_callV (M := M_Law_law) (pc := 1829) (as := [.int (xs 1), .int (xs 2), .int (xs 3), .int (xs 4), .int (xs 5)]) (b := 0) d_Law_law_1829 co_CM_meet ok_CM (fa hC 28 rfl) L_Law_178 im_CM_meet se_CM_meet (z_CM_meet hC (xs 1) (xs 2) (xs 3) (xs 4) (xs 5)) rfl ⟨by decide, by decide⟩ ⟨by decide, by decide⟩ (by exact le_b rfl) ?_ _ rfl
  rintro _ _ ⟨rfl, rfl⟩
  show PW _ _ _ _ _ _ (1832, _, [.long (-9223372036854775808)], _)
  refine P_aload_n d_Law_law_1832 rfl ?_
  refine P_aload_n d_Law_law_1833 rfl ?_
  refine P_iload d_Law_law_1834 rfl ?_
  refine P_iconst (v := 1) d_Law_law_1836 (by decide) ?_
  refine P_iadd d_Law_law_1837 ?_
  refine P_iald (j := 1) d_Law_law_1838 hs ⟨by decide, by decide⟩ (by decide) ?_
  refine P_aload_n d_Law_law_1839 rfl ?_
  refine P_iload d_Law_law_1840 rfl ?_
  refine P_iconst (v := 2) d_Law_law_1842 (by decide) ?_
  refine P_iadd d_Law_law_1843 ?_
  refine P_iald (j := 2) d_Law_law_1844 hs ⟨by decide, by decide⟩ (by decide) ?_
  refine P_aload_n d_Law_law_1845 rfl ?_
  refine P_iload d_Law_law_1846 rfl ?_
  refine P_iconst (v := 3) d_Law_law_1848 (by decide) ?_
  refine P_iadd d_Law_law_1849 ?_
  refine P_iald (j := 3) d_Law_law_1850 hs ⟨by decide, by decide⟩ (by decide) ?_
  refine P_aload_n d_Law_law_1851 rfl ?_
  refine P_iload d_Law_law_1852 rfl ?_
  refine P_iconst (v := 4) d_Law_law_1854 (by decide) ?_
  refine P_iadd d_Law_law_1855 ?_
  refine P_iald (j := 4) d_Law_law_1856 hs ⟨by decide, by decide⟩ (by decide) ?_
  refine P_aload_n d_Law_law_1857 rfl ?_
  refine P_iload d_Law_law_1858 rfl ?_
  refine P_iconst (v := 5) d_Law_law_1860 (by decide) ?_
  refine P_iadd d_Law_law_1861 ?_
  refine P_iald (j := 5) d_Law_law_1862 hs ⟨by decide, by decide⟩ (by decide) ?_
  refine P_callV (M := M_Law_law) (pc := 1863) (as := [.int (xs 1), .int (xs 2), .int (xs 3), .int (xs 4), .int (xs 5)]) (b := 467) d_Law_law_1863 co_MD_meet ok_Model (fa hM 18 rfl) L_Law_181 im_MD_meet se_MD_meet (z_MD_meet hM (xs 1) (xs 2) (xs 3) (xs 4) (xs 5)) rfl ⟨by decide, by decide⟩ ⟨by decide, by decide⟩ (by exact le_b rfl) ?_ _ rfl
  rintro _ _ ⟨rfl, rfl⟩
  show PW _ _ _ _ _ _ (1866, _, [.long (-9223372036854775808), .long (-9223372036854775808)], _)
  refine P_lcmp d_Law_law_1866 ?_
  refine P_if_eq 3371 d_Law_law_1867 (by decide) (fun _ => ?_) (fun h => absurd (by decide) h)
  show PW _ _ _ _ _ _ (3371, [(0, .ref 1000000), (1, .ref 0), (2, .ref 467), (3, .ref 486), (4, .int 0)], [], _)
  refine PW.wide (k' := 500) (n' := 12000) (le_b rfl) (le_b rfl) ?_
  exact PW.drop (lv' := lvE) (fun q hq => by simp only [lvE, List.mem_cons, List.not_mem_nil, or_false] at hq; rcases hq with rfl | rfl | rfl | rfl | rfl <;> simp [lvE]) (hend _)
theorem law_36 {G : pG} {w : pW} {xs : Nat → Int32} (hl : (g_l G).stackTraces = false) (hC : Has cfL w.2) (hM : Has mfL w.2) (hs : w.2 1000000 = .inl (0, 6, .inl xs)) (hx : w.1 < 1000000) (hend : ∀ w' : pW, PW G M_Law_law room_1 (QL G) 500 12000 (3371, lvE, [], w')) : PW G M_Law_law room_1 (QL G) 487 11543 (1872, lvE, [], w) := by
  refine P_aload_n d_Law_law_1872 rfl ?_
  refine P_aload_n d_Law_law_1873 rfl ?_
  refine P_iload d_Law_law_1874 rfl ?_
  refine P_iconst (v := 1) d_Law_law_1876 (by decide) ?_
  refine P_iadd d_Law_law_1877 ?_
  refine P_iald (j := 1) d_Law_law_1878 hs ⟨by decide, by decide⟩ (by decide) ?_
  refine P_aload_n d_Law_law_1879 rfl ?_
  refine P_iload d_Law_law_1880 rfl ?_
  refine P_iconst (v := 2) d_Law_law_1882 (by decide) ?_
  refine P_iadd d_Law_law_1883 ?_
  refine P_iald (j := 2) d_Law_law_1884 hs ⟨by decide, by decide⟩ (by decide) ?_
  refine P_aload_n d_Law_law_1885 rfl ?_
  refine P_iload d_Law_law_1886 rfl ?_
  refine P_iconst (v := 3) d_Law_law_1888 (by decide) ?_
  refine P_iadd d_Law_law_1889 ?_
  refine P_iald (j := 3) d_Law_law_1890 hs ⟨by decide, by decide⟩ (by decide) ?_
  refine P_aload_n d_Law_law_1891 rfl ?_
  refine P_iload d_Law_law_1892 rfl ?_
  refine P_iconst (v := 4) d_Law_law_1894 (by decide) ?_
  refine P_iadd d_Law_law_1895 ?_
  refine P_iald (j := 4) d_Law_law_1896 hs ⟨by decide, by decide⟩ (by decide) ?_
  refine P_aload_n d_Law_law_1897 rfl ?_
  refine P_iload d_Law_law_1898 rfl ?_
  refine P_iconst (v := 5) d_Law_law_1900 (by decide) ?_
  refine P_iadd d_Law_law_1901 ?_
  refine P_iald (j := 5) d_Law_law_1902 hs ⟨by decide, by decide⟩ (by decide) ?_
  refine P_callV (M := M_Law_law) (pc := 1903) (as := [.int (xs 1), .int (xs 2), .int (xs 3), .int (xs 4), .int (xs 5)]) (b := 0) d_Law_law_1903 co_CM_share ok_CM (fa hC 28 rfl) L_Law_182 im_CM_share se_CM_share (z_CM_share hC (xs 1) (xs 2) (xs 3) (xs 4) (xs 5)) rfl ⟨by decide, by decide⟩ ⟨by decide, by decide⟩ (by exact le_b rfl) ?_ _ rfl
  rintro _ _ ⟨rfl, rfl⟩
  show PW _ _ _ _ _ _ (1906, _, [.long (-9223372036854775808)], _)
  refine P_aload_n d_Law_law_1906 rfl ?_
  refine P_aload_n d_Law_law_1907 rfl ?_
  refine P_iload d_Law_law_1908 rfl ?_
  refine P_iconst (v := 1) d_Law_law_1910 (by decide) ?_
  refine P_iadd d_Law_law_1911 ?_
  refine P_iald (j := 1) d_Law_law_1912 hs ⟨by decide, by decide⟩ (by decide) ?_
  refine P_aload_n d_Law_law_1913 rfl ?_
  refine P_iload d_Law_law_1914 rfl ?_
  refine P_iconst (v := 2) d_Law_law_1916 (by decide) ?_
  refine P_iadd d_Law_law_1917 ?_
  refine P_iald (j := 2) d_Law_law_1918 hs ⟨by decide, by decide⟩ (by decide) ?_
  refine P_aload_n d_Law_law_1919 rfl ?_
  refine P_iload d_Law_law_1920 rfl ?_
  refine P_iconst (v := 3) d_Law_law_1922 (by decide) ?_
  refine P_iadd d_Law_law_1923 ?_
  refine P_iald (j := 3) d_Law_law_1924 hs ⟨by decide, by decide⟩ (by decide) ?_
  refine P_aload_n d_Law_law_1925 rfl ?_
  refine P_iload d_Law_law_1926 rfl ?_
  refine P_iconst (v := 4) d_Law_law_1928 (by decide) ?_
  refine P_iadd d_Law_law_1929 ?_
  refine P_iald (j := 4) d_Law_law_1930 hs ⟨by decide, by decide⟩ (by decide) ?_
  refine P_aload_n d_Law_law_1931 rfl ?_
  refine P_iload d_Law_law_1932 rfl ?_
  refine P_iconst (v := 5) d_Law_law_1934 (by decide) ?_
  refine P_iadd d_Law_law_1935 ?_
  refine P_iald (j := 5) d_Law_law_1936 hs ⟨by decide, by decide⟩ (by decide) ?_
  refine P_callV (M := M_Law_law) (pc := 1937) (as := [.int (xs 1), .int (xs 2), .int (xs 3), .int (xs 4), .int (xs 5)]) (b := 467) d_Law_law_1937 co_MD_share ok_Model (fa hM 18 rfl) L_Law_185 im_MD_share se_MD_share (z_MD_share hM (xs 1) (xs 2) (xs 3) (xs 4) (xs 5)) rfl ⟨by decide, by decide⟩ ⟨by decide, by decide⟩ (by exact le_b rfl) ?_ _ rfl
  rintro _ _ ⟨rfl, rfl⟩
  show PW _ _ _ _ _ _ (1940, _, [.long (-9223372036854775808), .long (-9223372036854775808)], _)
  refine P_lcmp d_Law_law_1940 ?_
  refine P_if_eq 3371 d_Law_law_1941 (by decide) (fun _ => ?_) (fun h => absurd (by decide) h)
  show PW _ _ _ _ _ _ (3371, [(0, .ref 1000000), (1, .ref 0), (2, .ref 467), (3, .ref 486), (4, .int 0)], [], _)
  refine PW.wide (k' := 500) (n' := 12000) (le_b rfl) (le_b rfl) ?_
  exact PW.drop (lv' := lvE) (fun q hq => by simp only [lvE, List.mem_cons, List.not_mem_nil, or_false] at hq; rcases hq with rfl | rfl | rfl | rfl | rfl <;> simp [lvE]) (hend _)
theorem law_37 {G : pG} {w : pW} {xs : Nat → Int32} (hl : (g_l G).stackTraces = false) (hC : Has cfL w.2) (hM : Has mfL w.2) (hs : w.2 1000000 = .inl (0, 6, .inl xs)) (hx : w.1 < 1000000) (hend : ∀ w' : pW, PW G M_Law_law room_1 (QL G) 500 12000 (3371, lvE, [], w')) : PW G M_Law_law room_1 (QL G) 487 11543 (1946, lvE, [], w) := by
  refine P_aload_n d_Law_law_1946 rfl ?_
  refine P_aload_n d_Law_law_1947 rfl ?_
  refine P_iload d_Law_law_1948 rfl ?_
  refine P_iconst (v := 1) d_Law_law_1950 (by decide) ?_
  refine P_iadd d_Law_law_1951 ?_
  refine P_iald (j := 1) d_Law_law_1952 hs ⟨by decide, by decide⟩ (by decide) ?_
  refine P_aload_n d_Law_law_1953 rfl ?_
  refine P_iload d_Law_law_1954 rfl ?_
  refine P_iconst (v := 2) d_Law_law_1956 (by decide) ?_
  refine P_iadd d_Law_law_1957 ?_
  refine P_iald (j := 2) d_Law_law_1958 hs ⟨by decide, by decide⟩ (by decide) ?_
  refine P_aload_n d_Law_law_1959 rfl ?_
  refine P_iload d_Law_law_1960 rfl ?_
  refine P_iconst (v := 3) d_Law_law_1962 (by decide) ?_
  refine P_iadd d_Law_law_1963 ?_
  refine P_iald (j := 3) d_Law_law_1964 hs ⟨by decide, by decide⟩ (by decide) ?_
  refine P_aload_n d_Law_law_1965 rfl ?_
  refine P_iload d_Law_law_1966 rfl ?_
  refine P_iconst (v := 4) d_Law_law_1968 (by decide) ?_
  refine P_iadd d_Law_law_1969 ?_
  refine P_iald (j := 4) d_Law_law_1970 hs ⟨by decide, by decide⟩ (by decide) ?_
  refine P_callV (M := M_Law_law) (pc := 1971) (as := [.int (xs 1), .int (xs 2), .int (xs 3), .int (xs 4)]) (b := 0) d_Law_law_1971 co_CM_fourth ok_CM (fa hC 28 rfl) L_Law_186 im_CM_fourth se_CM_fourth (z_CM_fourth hC (xs 1) (xs 2) (xs 3) (xs 4)) rfl ⟨by decide, by decide⟩ ⟨by decide, by decide⟩ (by exact le_b rfl) ?_ _ rfl
  rintro _ _ ⟨rfl, rfl⟩
  show PW _ _ _ _ _ _ (1974, _, [.long (-9223372036854775808)], _)
  refine P_aload_n d_Law_law_1974 rfl ?_
  refine P_aload_n d_Law_law_1975 rfl ?_
  refine P_iload d_Law_law_1976 rfl ?_
  refine P_iconst (v := 1) d_Law_law_1978 (by decide) ?_
  refine P_iadd d_Law_law_1979 ?_
  refine P_iald (j := 1) d_Law_law_1980 hs ⟨by decide, by decide⟩ (by decide) ?_
  refine P_aload_n d_Law_law_1981 rfl ?_
  refine P_iload d_Law_law_1982 rfl ?_
  refine P_iconst (v := 2) d_Law_law_1984 (by decide) ?_
  refine P_iadd d_Law_law_1985 ?_
  refine P_iald (j := 2) d_Law_law_1986 hs ⟨by decide, by decide⟩ (by decide) ?_
  refine P_aload_n d_Law_law_1987 rfl ?_
  refine P_iload d_Law_law_1988 rfl ?_
  refine P_iconst (v := 3) d_Law_law_1990 (by decide) ?_
  refine P_iadd d_Law_law_1991 ?_
  refine P_iald (j := 3) d_Law_law_1992 hs ⟨by decide, by decide⟩ (by decide) ?_
  refine P_aload_n d_Law_law_1993 rfl ?_
  refine P_iload d_Law_law_1994 rfl ?_
  refine P_iconst (v := 4) d_Law_law_1996 (by decide) ?_
  refine P_iadd d_Law_law_1997 ?_
  refine P_iald (j := 4) d_Law_law_1998 hs ⟨by decide, by decide⟩ (by decide) ?_
  refine P_callV (M := M_Law_law) (pc := 1999) (as := [.int (xs 1), .int (xs 2), .int (xs 3), .int (xs 4)]) (b := 467) d_Law_law_1999 co_MD_fourth ok_Model (fa hM 18 rfl) L_Law_190 im_MD_fourth se_MD_fourth (z_MD_fourth hM (xs 1) (xs 2) (xs 3) (xs 4)) rfl ⟨by decide, by decide⟩ ⟨by decide, by decide⟩ (by exact le_b rfl) ?_ _ rfl
  rintro _ _ ⟨rfl, rfl⟩
  show PW _ _ _ _ _ _ (2002, _, [.long (-9223372036854775808), .long (-9223372036854775808)], _)
  refine P_lcmp d_Law_law_2002 ?_
  refine P_if_eq 3371 d_Law_law_2003 (by decide) (fun _ => ?_) (fun h => absurd (by decide) h)
  show PW _ _ _ _ _ _ (3371, [(0, .ref 1000000), (1, .ref 0), (2, .ref 467), (3, .ref 486), (4, .int 0)], [], _)
  refine PW.wide (k' := 500) (n' := 12000) (le_b rfl) (le_b rfl) ?_
  exact PW.drop (lv' := lvE) (fun q hq => by simp only [lvE, List.mem_cons, List.not_mem_nil, or_false] at hq; rcases hq with rfl | rfl | rfl | rfl | rfl <;> simp [lvE]) (hend _)
theorem law_38 {G : pG} {w : pW} {xs : Nat → Int32} (hl : (g_l G).stackTraces = false) (hC : Has cfL w.2) (hM : Has mfL w.2) (hs : w.2 1000000 = .inl (0, 6, .inl xs)) (hx : w.1 < 1000000) (hend : ∀ w' : pW, PW G M_Law_law room_1 (QL G) 500 12000 (3371, lvE, [], w')) : PW G M_Law_law room_1 (QL G) 487 11543 (2008, lvE, [], w) := by
  refine P_aload_n d_Law_law_2008 rfl ?_
  refine P_aload_n d_Law_law_2009 rfl ?_
  refine P_iload d_Law_law_2010 rfl ?_
  refine P_iconst (v := 1) d_Law_law_2012 (by decide) ?_
  refine P_iadd d_Law_law_2013 ?_
  refine P_iald (j := 1) d_Law_law_2014 hs ⟨by decide, by decide⟩ (by decide) ?_
  refine P_aload_n d_Law_law_2015 rfl ?_
  refine P_iload d_Law_law_2016 rfl ?_
  refine P_iconst (v := 2) d_Law_law_2018 (by decide) ?_
  refine P_iadd d_Law_law_2019 ?_
  refine P_iald (j := 2) d_Law_law_2020 hs ⟨by decide, by decide⟩ (by decide) ?_
  refine P_aload_n d_Law_law_2021 rfl ?_
  refine P_iload d_Law_law_2022 rfl ?_
  refine P_iconst (v := 3) d_Law_law_2024 (by decide) ?_
  refine P_iadd d_Law_law_2025 ?_
  refine P_iald (j := 3) d_Law_law_2026 hs ⟨by decide, by decide⟩ (by decide) ?_
  refine P_aload_n d_Law_law_2027 rfl ?_
  refine P_iload d_Law_law_2028 rfl ?_
  refine P_iconst (v := 4) d_Law_law_2030 (by decide) ?_
  refine P_iadd d_Law_law_2031 ?_
  refine P_iald (j := 4) d_Law_law_2032 hs ⟨by decide, by decide⟩ (by decide) ?_
  refine P_callV (M := M_Law_law) (pc := 2033) (as := [.int (xs 1), .int (xs 2), .int (xs 3), .int (xs 4)]) (b := 0) d_Law_law_2033 co_CM_track ok_CM (fa hC 28 rfl) L_Law_191 im_CM_track se_CM_track (z_CM_track hC (xs 1) (xs 2) (xs 3) (xs 4)) rfl ⟨by decide, by decide⟩ ⟨by decide, by decide⟩ (by exact le_b rfl) ?_ _ rfl
  rintro _ _ ⟨rfl, rfl⟩
  show PW _ _ _ _ _ _ (2036, _, [.long (-9223372036854775808)], _)
  refine P_aload_n d_Law_law_2036 rfl ?_
  refine P_aload_n d_Law_law_2037 rfl ?_
  refine P_iload d_Law_law_2038 rfl ?_
  refine P_iconst (v := 1) d_Law_law_2040 (by decide) ?_
  refine P_iadd d_Law_law_2041 ?_
  refine P_iald (j := 1) d_Law_law_2042 hs ⟨by decide, by decide⟩ (by decide) ?_
  refine P_aload_n d_Law_law_2043 rfl ?_
  refine P_iload d_Law_law_2044 rfl ?_
  refine P_iconst (v := 2) d_Law_law_2046 (by decide) ?_
  refine P_iadd d_Law_law_2047 ?_
  refine P_iald (j := 2) d_Law_law_2048 hs ⟨by decide, by decide⟩ (by decide) ?_
  refine P_aload_n d_Law_law_2049 rfl ?_
  refine P_iload d_Law_law_2050 rfl ?_
  refine P_iconst (v := 3) d_Law_law_2052 (by decide) ?_
  refine P_iadd d_Law_law_2053 ?_
  refine P_iald (j := 3) d_Law_law_2054 hs ⟨by decide, by decide⟩ (by decide) ?_
  refine P_aload_n d_Law_law_2055 rfl ?_
  refine P_iload d_Law_law_2056 rfl ?_
  refine P_iconst (v := 4) d_Law_law_2058 (by decide) ?_
  refine P_iadd d_Law_law_2059 ?_
  refine P_iald (j := 4) d_Law_law_2060 hs ⟨by decide, by decide⟩ (by decide) ?_
  refine P_callV (M := M_Law_law) (pc := 2061) (as := [.int (xs 1), .int (xs 2), .int (xs 3), .int (xs 4)]) (b := 467) d_Law_law_2061 co_MD_track ok_Model (fa hM 18 rfl) L_Law_194 im_MD_track se_MD_track (z_MD_track hM (xs 1) (xs 2) (xs 3) (xs 4)) rfl ⟨by decide, by decide⟩ ⟨by decide, by decide⟩ (by exact le_b rfl) ?_ _ rfl
  rintro _ _ ⟨rfl, rfl⟩
  show PW _ _ _ _ _ _ (2064, _, [.long (-9223372036854775808), .long (-9223372036854775808)], _)
  refine P_lcmp d_Law_law_2064 ?_
  refine P_if_eq 3371 d_Law_law_2065 (by decide) (fun _ => ?_) (fun h => absurd (by decide) h)
  show PW _ _ _ _ _ _ (3371, [(0, .ref 1000000), (1, .ref 0), (2, .ref 467), (3, .ref 486), (4, .int 0)], [], _)
  refine PW.wide (k' := 500) (n' := 12000) (le_b rfl) (le_b rfl) ?_
  exact PW.drop (lv' := lvE) (fun q hq => by simp only [lvE, List.mem_cons, List.not_mem_nil, or_false] at hq; rcases hq with rfl | rfl | rfl | rfl | rfl <;> simp [lvE]) (hend _)
theorem law_39 {G : pG} {w : pW} {xs : Nat → Int32} (hl : (g_l G).stackTraces = false) (hC : Has cfL w.2) (hM : Has mfL w.2) (hs : w.2 1000000 = .inl (0, 6, .inl xs)) (hx : w.1 < 1000000) (hend : ∀ w' : pW, PW G M_Law_law room_1 (QL G) 500 12000 (3371, lvE, [], w')) : PW G M_Law_law room_1 (QL G) 487 11543 (2070, lvE, [], w) := by
  refine P_aload_n d_Law_law_2070 rfl ?_
  refine P_aload_n d_Law_law_2071 rfl ?_
  refine P_iload d_Law_law_2072 rfl ?_
  refine P_iconst (v := 1) d_Law_law_2074 (by decide) ?_
  refine P_iadd d_Law_law_2075 ?_
  refine P_iald (j := 1) d_Law_law_2076 hs ⟨by decide, by decide⟩ (by decide) ?_
  refine P_aload_n d_Law_law_2077 rfl ?_
  refine P_iload d_Law_law_2078 rfl ?_
  refine P_iconst (v := 2) d_Law_law_2080 (by decide) ?_
  refine P_iadd d_Law_law_2081 ?_
  refine P_iald (j := 2) d_Law_law_2082 hs ⟨by decide, by decide⟩ (by decide) ?_
  refine P_callV (M := M_Law_law) (pc := 2083) (as := [.int (xs 1), .int (xs 2)]) (b := 0) d_Law_law_2083 co_CM_cycle ok_CM (fa hC 28 rfl) L_Law_195 im_CM_cycle se_CM_cycle (z_CM_cycle hC (xs 1) (xs 2)) rfl ⟨by decide, by decide⟩ ⟨by decide, by decide⟩ (by exact le_b rfl) ?_ _ rfl
  rintro _ _ ⟨rfl, rfl⟩
  show PW _ _ _ _ _ _ (2086, _, [.int (-1)], _)
  refine P_aload_n d_Law_law_2086 rfl ?_
  refine P_aload_n d_Law_law_2087 rfl ?_
  refine P_iload d_Law_law_2088 rfl ?_
  refine P_iconst (v := 1) d_Law_law_2090 (by decide) ?_
  refine P_iadd d_Law_law_2091 ?_
  refine P_iald (j := 1) d_Law_law_2092 hs ⟨by decide, by decide⟩ (by decide) ?_
  refine P_aload_n d_Law_law_2093 rfl ?_
  refine P_iload d_Law_law_2094 rfl ?_
  refine P_iconst (v := 2) d_Law_law_2096 (by decide) ?_
  refine P_iadd d_Law_law_2097 ?_
  refine P_iald (j := 2) d_Law_law_2098 hs ⟨by decide, by decide⟩ (by decide) ?_
  refine P_callV (M := M_Law_law) (pc := 2099) (as := [.int (xs 1), .int (xs 2)]) (b := 467) d_Law_law_2099 co_MD_cycle ok_Model (fa hM 18 rfl) L_Law_198 im_MD_cycle se_MD_cycle (z_MD_cycle hM (xs 1) (xs 2)) rfl ⟨by decide, by decide⟩ ⟨by decide, by decide⟩ (by exact le_b rfl) ?_ _ rfl
  rintro _ _ ⟨rfl, rfl⟩
  show PW _ _ _ _ _ _ (2102, _, [.int (-1), .int (-1)], _)
  refine P_icmp_eq 3371 d_Law_law_2102 (by decide) (fun _ => ?_) (fun h => absurd (by decide) h)
  show PW _ _ _ _ _ _ (3371, [(0, .ref 1000000), (1, .ref 0), (2, .ref 467), (3, .ref 486), (4, .int 0)], [], _)
  refine PW.wide (k' := 500) (n' := 12000) (le_b rfl) (le_b rfl) ?_
  exact PW.drop (lv' := lvE) (fun q hq => by simp only [lvE, List.mem_cons, List.not_mem_nil, or_false] at hq; rcases hq with rfl | rfl | rfl | rfl | rfl <;> simp [lvE]) (hend _)
theorem law_40 {G : pG} {w : pW} {xs : Nat → Int32} (hl : (g_l G).stackTraces = false) (hC : Has cfL w.2) (hM : Has mfL w.2) (hs : w.2 1000000 = .inl (0, 6, .inl xs)) (hx : w.1 < 1000000) (hend : ∀ w' : pW, PW G M_Law_law room_1 (QL G) 500 12000 (3371, lvE, [], w')) : PW G M_Law_law room_1 (QL G) 487 11543 (2107, lvE, [], w) := by
  refine P_aload_n d_Law_law_2107 rfl ?_
  refine P_aload_n d_Law_law_2108 rfl ?_
  refine P_iload d_Law_law_2109 rfl ?_
  refine P_iconst (v := 1) d_Law_law_2111 (by decide) ?_
  refine P_iadd d_Law_law_2112 ?_
  refine P_iald (j := 1) d_Law_law_2113 hs ⟨by decide, by decide⟩ (by decide) ?_
  refine P_aload_n d_Law_law_2114 rfl ?_
  refine P_iload d_Law_law_2115 rfl ?_
  refine P_iconst (v := 2) d_Law_law_2117 (by decide) ?_
  refine P_iadd d_Law_law_2118 ?_
  refine P_iald (j := 2) d_Law_law_2119 hs ⟨by decide, by decide⟩ (by decide) ?_
  refine P_callV (M := M_Law_law) (pc := 2120) (as := [.int (xs 1), .int (xs 2)]) (b := 0) d_Law_law_2120 co_CM_whole ok_CM (fa hC 28 rfl) L_Law_199 im_CM_whole se_CM_whole (z_CM_whole hC (xs 1) (xs 2)) rfl ⟨by decide, by decide⟩ ⟨by decide, by decide⟩ (by exact le_b rfl) ?_ _ rfl
  rintro _ _ ⟨rfl, rfl⟩
  show PW _ _ _ _ _ _ (2123, _, [.int (-1)], _)
  refine P_aload_n d_Law_law_2123 rfl ?_
  refine P_aload_n d_Law_law_2124 rfl ?_
  refine P_iload d_Law_law_2125 rfl ?_
  refine P_iconst (v := 1) d_Law_law_2127 (by decide) ?_
  refine P_iadd d_Law_law_2128 ?_
  refine P_iald (j := 1) d_Law_law_2129 hs ⟨by decide, by decide⟩ (by decide) ?_
  refine P_aload_n d_Law_law_2130 rfl ?_
  refine P_iload d_Law_law_2131 rfl ?_
  refine P_iconst (v := 2) d_Law_law_2133 (by decide) ?_
  refine P_iadd d_Law_law_2134 ?_
  refine P_iald (j := 2) d_Law_law_2135 hs ⟨by decide, by decide⟩ (by decide) ?_
  refine P_callV (M := M_Law_law) (pc := 2136) (as := [.int (xs 1), .int (xs 2)]) (b := 467) d_Law_law_2136 co_MD_whole ok_Model (fa hM 18 rfl) L_Law_202 im_MD_whole se_MD_whole (z_MD_whole hM (xs 1) (xs 2)) rfl ⟨by decide, by decide⟩ ⟨by decide, by decide⟩ (by exact le_b rfl) ?_ _ rfl
  rintro _ _ ⟨rfl, rfl⟩
  show PW _ _ _ _ _ _ (2139, _, [.int (-1), .int (-1)], _)
  refine P_icmp_eq 3371 d_Law_law_2139 (by decide) (fun _ => ?_) (fun h => absurd (by decide) h)
  show PW _ _ _ _ _ _ (3371, [(0, .ref 1000000), (1, .ref 0), (2, .ref 467), (3, .ref 486), (4, .int 0)], [], _)
  refine PW.wide (k' := 500) (n' := 12000) (le_b rfl) (le_b rfl) ?_
  exact PW.drop (lv' := lvE) (fun q hq => by simp only [lvE, List.mem_cons, List.not_mem_nil, or_false] at hq; rcases hq with rfl | rfl | rfl | rfl | rfl <;> simp [lvE]) (hend _)
theorem law_41 {G : pG} {w : pW} {xs : Nat → Int32} (hl : (g_l G).stackTraces = false) (hC : Has cfL w.2) (hM : Has mfL w.2) (hs : w.2 1000000 = .inl (0, 6, .inl xs)) (hx : w.1 < 1000000) (hend : ∀ w' : pW, PW G M_Law_law room_1 (QL G) 500 12000 (3371, lvE, [], w')) : PW G M_Law_law room_1 (QL G) 487 11543 (2144, lvE, [], w) := by
  refine P_aload_n d_Law_law_2144 rfl ?_
  refine P_aload_n d_Law_law_2145 rfl ?_
  refine P_iload d_Law_law_2146 rfl ?_
  refine P_iconst (v := 1) d_Law_law_2148 (by decide) ?_
  refine P_iadd d_Law_law_2149 ?_
  refine P_iald (j := 1) d_Law_law_2150 hs ⟨by decide, by decide⟩ (by decide) ?_
  refine P_aload_n d_Law_law_2151 rfl ?_
  refine P_iload d_Law_law_2152 rfl ?_
  refine P_iconst (v := 2) d_Law_law_2154 (by decide) ?_
  refine P_iadd d_Law_law_2155 ?_
  refine P_iald (j := 2) d_Law_law_2156 hs ⟨by decide, by decide⟩ (by decide) ?_
  refine P_callV (M := M_Law_law) (pc := 2157) (as := [.int (xs 1), .int (xs 2)]) (b := 0) d_Law_law_2157 co_CM_inside ok_CM (fa hC 28 rfl) L_Law_203 im_CM_inside se_CM_inside (z_CM_inside hC (xs 1) (xs 2)) rfl ⟨by decide, by decide⟩ ⟨by decide, by decide⟩ (by exact le_b rfl) ?_ _ rfl
  rintro _ _ ⟨rfl, rfl⟩
  show PW _ _ _ _ _ _ (2160, _, [.int (-1)], _)
  refine P_aload_n d_Law_law_2160 rfl ?_
  refine P_aload_n d_Law_law_2161 rfl ?_
  refine P_iload d_Law_law_2162 rfl ?_
  refine P_iconst (v := 1) d_Law_law_2164 (by decide) ?_
  refine P_iadd d_Law_law_2165 ?_
  refine P_iald (j := 1) d_Law_law_2166 hs ⟨by decide, by decide⟩ (by decide) ?_
  refine P_aload_n d_Law_law_2167 rfl ?_
  refine P_iload d_Law_law_2168 rfl ?_
  refine P_iconst (v := 2) d_Law_law_2170 (by decide) ?_
  refine P_iadd d_Law_law_2171 ?_
  refine P_iald (j := 2) d_Law_law_2172 hs ⟨by decide, by decide⟩ (by decide) ?_
  refine P_callV (M := M_Law_law) (pc := 2173) (as := [.int (xs 1), .int (xs 2)]) (b := 467) d_Law_law_2173 co_MD_inside ok_Model (fa hM 18 rfl) L_Law_206 im_MD_inside se_MD_inside (z_MD_inside hM (xs 1) (xs 2)) rfl ⟨by decide, by decide⟩ ⟨by decide, by decide⟩ (by exact le_b rfl) ?_ _ rfl
  rintro _ _ ⟨rfl, rfl⟩
  show PW _ _ _ _ _ _ (2176, _, [.int (-1), .int (-1)], _)
  refine P_icmp_eq 3371 d_Law_law_2176 (by decide) (fun _ => ?_) (fun h => absurd (by decide) h)
  show PW _ _ _ _ _ _ (3371, [(0, .ref 1000000), (1, .ref 0), (2, .ref 467), (3, .ref 486), (4, .int 0)], [], _)
  refine PW.wide (k' := 500) (n' := 12000) (le_b rfl) (le_b rfl) ?_
  exact PW.drop (lv' := lvE) (fun q hq => by simp only [lvE, List.mem_cons, List.not_mem_nil, or_false] at hq; rcases hq with rfl | rfl | rfl | rfl | rfl <;> simp [lvE]) (hend _)
theorem law_42 {G : pG} {w : pW} {xs : Nat → Int32} (hl : (g_l G).stackTraces = false) (hC : Has cfL w.2) (hM : Has mfL w.2) (hs : w.2 1000000 = .inl (0, 6, .inl xs)) (hx : w.1 < 1000000) (hend : ∀ w' : pW, PW G M_Law_law room_1 (QL G) 500 12000 (3371, lvE, [], w')) : PW G M_Law_law room_1 (QL G) 487 11543 (2181, lvE, [], w) := by
  refine P_aload_n d_Law_law_2181 rfl ?_
  refine P_aload_n d_Law_law_2182 rfl ?_
  refine P_iload d_Law_law_2183 rfl ?_
  refine P_iconst (v := 1) d_Law_law_2185 (by decide) ?_
  refine P_iadd d_Law_law_2186 ?_
  refine P_iald (j := 1) d_Law_law_2187 hs ⟨by decide, by decide⟩ (by decide) ?_
  refine P_aload_n d_Law_law_2188 rfl ?_
  refine P_iload d_Law_law_2189 rfl ?_
  refine P_iconst (v := 2) d_Law_law_2191 (by decide) ?_
  refine P_iadd d_Law_law_2192 ?_
  refine P_iald (j := 2) d_Law_law_2193 hs ⟨by decide, by decide⟩ (by decide) ?_
  refine P_callV (M := M_Law_law) (pc := 2194) (as := [.int (xs 1), .int (xs 2)]) (b := 0) d_Law_law_2194 co_CM_crossings ok_CM (fa hC 28 rfl) L_Law_207 im_CM_crossings se_CM_crossings (z_CM_crossings hC (xs 1) (xs 2)) rfl ⟨by decide, by decide⟩ ⟨by decide, by decide⟩ (by exact le_b rfl) ?_ _ rfl
  rintro _ _ ⟨rfl, rfl⟩
  show PW _ _ _ _ _ _ (2197, _, [.int (-1)], _)
  refine P_aload_n d_Law_law_2197 rfl ?_
  refine P_aload_n d_Law_law_2198 rfl ?_
  refine P_iload d_Law_law_2199 rfl ?_
  refine P_iconst (v := 1) d_Law_law_2201 (by decide) ?_
  refine P_iadd d_Law_law_2202 ?_
  refine P_iald (j := 1) d_Law_law_2203 hs ⟨by decide, by decide⟩ (by decide) ?_
  refine P_aload_n d_Law_law_2204 rfl ?_
  refine P_iload d_Law_law_2205 rfl ?_
  refine P_iconst (v := 2) d_Law_law_2207 (by decide) ?_
  refine P_iadd d_Law_law_2208 ?_
  refine P_iald (j := 2) d_Law_law_2209 hs ⟨by decide, by decide⟩ (by decide) ?_
  refine P_callV (M := M_Law_law) (pc := 2210) (as := [.int (xs 1), .int (xs 2)]) (b := 467) d_Law_law_2210 co_MD_crossings ok_Model (fa hM 18 rfl) L_Law_210 im_MD_crossings se_MD_crossings (z_MD_crossings hM (xs 1) (xs 2)) rfl ⟨by decide, by decide⟩ ⟨by decide, by decide⟩ (by exact le_b rfl) ?_ _ rfl
  rintro _ _ ⟨rfl, rfl⟩
  show PW _ _ _ _ _ _ (2213, _, [.int (-1), .int (-1)], _)
  refine P_icmp_eq 3371 d_Law_law_2213 (by decide) (fun _ => ?_) (fun h => absurd (by decide) h)
  show PW _ _ _ _ _ _ (3371, [(0, .ref 1000000), (1, .ref 0), (2, .ref 467), (3, .ref 486), (4, .int 0)], [], _)
  refine PW.wide (k' := 500) (n' := 12000) (le_b rfl) (le_b rfl) ?_
  exact PW.drop (lv' := lvE) (fun q hq => by simp only [lvE, List.mem_cons, List.not_mem_nil, or_false] at hq; rcases hq with rfl | rfl | rfl | rfl | rfl <;> simp [lvE]) (hend _)
theorem law_43 {G : pG} {w : pW} {xs : Nat → Int32} (hl : (g_l G).stackTraces = false) (hC : Has cfL w.2) (hM : Has mfL w.2) (hs : w.2 1000000 = .inl (0, 6, .inl xs)) (hx : w.1 < 1000000) (hend : ∀ w' : pW, PW G M_Law_law room_1 (QL G) 500 12000 (3371, lvE, [], w')) : PW G M_Law_law room_1 (QL G) 487 11543 (2218, lvE, [], w) := by
  refine P_aload_n d_Law_law_2218 rfl ?_
  refine P_aload_n d_Law_law_2219 rfl ?_
  refine P_iload d_Law_law_2220 rfl ?_
  refine P_iconst (v := 1) d_Law_law_2222 (by decide) ?_
  refine P_iadd d_Law_law_2223 ?_
  refine P_iald (j := 1) d_Law_law_2224 hs ⟨by decide, by decide⟩ (by decide) ?_
  refine P_aload_n d_Law_law_2225 rfl ?_
  refine P_iload d_Law_law_2226 rfl ?_
  refine P_iconst (v := 2) d_Law_law_2228 (by decide) ?_
  refine P_iadd d_Law_law_2229 ?_
  refine P_iald (j := 2) d_Law_law_2230 hs ⟨by decide, by decide⟩ (by decide) ?_
  refine P_aload_n d_Law_law_2231 rfl ?_
  refine P_iload d_Law_law_2232 rfl ?_
  refine P_iconst (v := 3) d_Law_law_2234 (by decide) ?_
  refine P_iadd d_Law_law_2235 ?_
  refine P_iald (j := 3) d_Law_law_2236 hs ⟨by decide, by decide⟩ (by decide) ?_
  refine P_callV (M := M_Law_law) (pc := 2237) (as := [.int (xs 1), .int (xs 2), .int (xs 3)]) (b := 0) d_Law_law_2237 co_CM_diagonal ok_CM (fa hC 28 rfl) L_Law_211 im_CM_diagonal se_CM_diagonal (z_CM_diagonal hC (xs 1) (xs 2) (xs 3)) rfl ⟨by decide, by decide⟩ ⟨by decide, by decide⟩ (by exact le_b rfl) ?_ _ rfl
  rintro _ _ ⟨rfl, rfl⟩
  show PW _ _ _ _ _ _ (2240, _, [.long (-9223372036854775808)], _)
  refine P_aload_n d_Law_law_2240 rfl ?_
  refine P_aload_n d_Law_law_2241 rfl ?_
  refine P_iload d_Law_law_2242 rfl ?_
  refine P_iconst (v := 1) d_Law_law_2244 (by decide) ?_
  refine P_iadd d_Law_law_2245 ?_
  refine P_iald (j := 1) d_Law_law_2246 hs ⟨by decide, by decide⟩ (by decide) ?_
  refine P_aload_n d_Law_law_2247 rfl ?_
  refine P_iload d_Law_law_2248 rfl ?_
  refine P_iconst (v := 2) d_Law_law_2250 (by decide) ?_
  refine P_iadd d_Law_law_2251 ?_
  refine P_iald (j := 2) d_Law_law_2252 hs ⟨by decide, by decide⟩ (by decide) ?_
  refine P_aload_n d_Law_law_2253 rfl ?_
  refine P_iload d_Law_law_2254 rfl ?_
  refine P_iconst (v := 3) d_Law_law_2256 (by decide) ?_
  refine P_iadd d_Law_law_2257 ?_
  refine P_iald (j := 3) d_Law_law_2258 hs ⟨by decide, by decide⟩ (by decide) ?_
  refine P_callV (M := M_Law_law) (pc := 2259) (as := [.int (xs 1), .int (xs 2), .int (xs 3)]) (b := 467) d_Law_law_2259 co_MD_diagonal ok_Model (fa hM 18 rfl) L_Law_214 im_MD_diagonal se_MD_diagonal (z_MD_diagonal hM (xs 1) (xs 2) (xs 3)) rfl ⟨by decide, by decide⟩ ⟨by decide, by decide⟩ (by exact le_b rfl) ?_ _ rfl
  rintro _ _ ⟨rfl, rfl⟩
  show PW _ _ _ _ _ _ (2262, _, [.long (-9223372036854775808), .long (-9223372036854775808)], _)
  refine P_lcmp d_Law_law_2262 ?_
  refine P_if_eq 3371 d_Law_law_2263 (by decide) (fun _ => ?_) (fun h => absurd (by decide) h)
  show PW _ _ _ _ _ _ (3371, [(0, .ref 1000000), (1, .ref 0), (2, .ref 467), (3, .ref 486), (4, .int 0)], [], _)
  refine PW.wide (k' := 500) (n' := 12000) (le_b rfl) (le_b rfl) ?_
  exact PW.drop (lv' := lvE) (fun q hq => by simp only [lvE, List.mem_cons, List.not_mem_nil, or_false] at hq; rcases hq with rfl | rfl | rfl | rfl | rfl <;> simp [lvE]) (hend _)
theorem law_44 {G : pG} {w : pW} {xs : Nat → Int32} (hl : (g_l G).stackTraces = false) (hC : Has cfL w.2) (hM : Has mfL w.2) (hs : w.2 1000000 = .inl (0, 6, .inl xs)) (hx : w.1 < 1000000) (hend : ∀ w' : pW, PW G M_Law_law room_1 (QL G) 500 12000 (3371, lvE, [], w')) : PW G M_Law_law room_1 (QL G) 487 11543 (2268, lvE, [], w) := by
  refine P_aload_n d_Law_law_2268 rfl ?_
  refine P_aload_n d_Law_law_2269 rfl ?_
  refine P_iload d_Law_law_2270 rfl ?_
  refine P_iconst (v := 1) d_Law_law_2272 (by decide) ?_
  refine P_iadd d_Law_law_2273 ?_
  refine P_iald (j := 1) d_Law_law_2274 hs ⟨by decide, by decide⟩ (by decide) ?_
  refine P_aload_n d_Law_law_2275 rfl ?_
  refine P_iload d_Law_law_2276 rfl ?_
  refine P_iconst (v := 2) d_Law_law_2278 (by decide) ?_
  refine P_iadd d_Law_law_2279 ?_
  refine P_iald (j := 2) d_Law_law_2280 hs ⟨by decide, by decide⟩ (by decide) ?_
  refine P_callV (M := M_Law_law) (pc := 2281) (as := [.int (xs 1), .int (xs 2)]) (b := 0) d_Law_law_2281 co_CM_parallel ok_CM (fa hC 28 rfl) L_Law_215 im_CM_parallel se_CM_parallel (z_CM_parallel hC (xs 1) (xs 2)) rfl ⟨by decide, by decide⟩ ⟨by decide, by decide⟩ (by exact le_b rfl) ?_ _ rfl
  rintro _ _ ⟨rfl, rfl⟩
  show PW _ _ _ _ _ _ (2284, _, [.int (-1)], _)
  refine P_aload_n d_Law_law_2284 rfl ?_
  refine P_aload_n d_Law_law_2285 rfl ?_
  refine P_iload d_Law_law_2286 rfl ?_
  refine P_iconst (v := 1) d_Law_law_2288 (by decide) ?_
  refine P_iadd d_Law_law_2289 ?_
  refine P_iald (j := 1) d_Law_law_2290 hs ⟨by decide, by decide⟩ (by decide) ?_
  refine P_aload_n d_Law_law_2291 rfl ?_
  refine P_iload d_Law_law_2292 rfl ?_
  refine P_iconst (v := 2) d_Law_law_2294 (by decide) ?_
  refine P_iadd d_Law_law_2295 ?_
  refine P_iald (j := 2) d_Law_law_2296 hs ⟨by decide, by decide⟩ (by decide) ?_
  refine P_callV (M := M_Law_law) (pc := 2297) (as := [.int (xs 1), .int (xs 2)]) (b := 467) d_Law_law_2297 co_MD_parallel ok_Model (fa hM 18 rfl) L_Law_218 im_MD_parallel se_MD_parallel (z_MD_parallel hM (xs 1) (xs 2)) rfl ⟨by decide, by decide⟩ ⟨by decide, by decide⟩ (by exact le_b rfl) ?_ _ rfl
  rintro _ _ ⟨rfl, rfl⟩
  show PW _ _ _ _ _ _ (2300, _, [.int (-1), .int (-1)], _)
  refine P_icmp_eq 3371 d_Law_law_2300 (by decide) (fun _ => ?_) (fun h => absurd (by decide) h)
  show PW _ _ _ _ _ _ (3371, [(0, .ref 1000000), (1, .ref 0), (2, .ref 467), (3, .ref 486), (4, .int 0)], [], _)
  refine PW.wide (k' := 500) (n' := 12000) (le_b rfl) (le_b rfl) ?_
  exact PW.drop (lv' := lvE) (fun q hq => by simp only [lvE, List.mem_cons, List.not_mem_nil, or_false] at hq; rcases hq with rfl | rfl | rfl | rfl | rfl <;> simp [lvE]) (hend _)
theorem law_45 {G : pG} {w : pW} {xs : Nat → Int32} (hl : (g_l G).stackTraces = false) (hC : Has cfL w.2) (hM : Has mfL w.2) (hs : w.2 1000000 = .inl (0, 6, .inl xs)) (hx : w.1 < 1000000) (hend : ∀ w' : pW, PW G M_Law_law room_1 (QL G) 500 12000 (3371, lvE, [], w')) : PW G M_Law_law room_1 (QL G) 487 11543 (2305, lvE, [], w) := by
  refine P_aload_n d_Law_law_2305 rfl ?_
  refine P_aload_n d_Law_law_2306 rfl ?_
  refine P_iload d_Law_law_2307 rfl ?_
  refine P_iconst (v := 1) d_Law_law_2309 (by decide) ?_
  refine P_iadd d_Law_law_2310 ?_
  refine P_iald (j := 1) d_Law_law_2311 hs ⟨by decide, by decide⟩ (by decide) ?_
  refine P_aload_n d_Law_law_2312 rfl ?_
  refine P_iload d_Law_law_2313 rfl ?_
  refine P_iconst (v := 2) d_Law_law_2315 (by decide) ?_
  refine P_iadd d_Law_law_2316 ?_
  refine P_iald (j := 2) d_Law_law_2317 hs ⟨by decide, by decide⟩ (by decide) ?_
  refine P_callV (M := M_Law_law) (pc := 2318) (as := [.int (xs 1), .int (xs 2)]) (b := 0) d_Law_law_2318 co_CM_shapeBy ok_CM (fa hC 28 rfl) L_Law_219 im_CM_shapeBy se_CM_shapeBy (z_CM_shapeBy hC (xs 1) (xs 2)) rfl ⟨by decide, by decide⟩ ⟨by decide, by decide⟩ (by exact le_b rfl) ?_ _ rfl
  rintro _ _ ⟨rfl, rfl⟩
  show PW _ _ _ _ _ _ (2321, _, [.int (-1)], _)
  refine P_aload_n d_Law_law_2321 rfl ?_
  refine P_aload_n d_Law_law_2322 rfl ?_
  refine P_iload d_Law_law_2323 rfl ?_
  refine P_iconst (v := 1) d_Law_law_2325 (by decide) ?_
  refine P_iadd d_Law_law_2326 ?_
  refine P_iald (j := 1) d_Law_law_2327 hs ⟨by decide, by decide⟩ (by decide) ?_
  refine P_aload_n d_Law_law_2328 rfl ?_
  refine P_iload d_Law_law_2329 rfl ?_
  refine P_iconst (v := 2) d_Law_law_2331 (by decide) ?_
  refine P_iadd d_Law_law_2332 ?_
  refine P_iald (j := 2) d_Law_law_2333 hs ⟨by decide, by decide⟩ (by decide) ?_
  refine P_callV (M := M_Law_law) (pc := 2334) (as := [.int (xs 1), .int (xs 2)]) (b := 467) d_Law_law_2334 co_MD_shapeBy ok_Model (fa hM 18 rfl) L_Law_222 im_MD_shapeBy se_MD_shapeBy (z_MD_shapeBy hM (xs 1) (xs 2)) rfl ⟨by decide, by decide⟩ ⟨by decide, by decide⟩ (by exact le_b rfl) ?_ _ rfl
  rintro _ _ ⟨rfl, rfl⟩
  show PW _ _ _ _ _ _ (2337, _, [.int (-1), .int (-1)], _)
  refine P_icmp_eq 3371 d_Law_law_2337 (by decide) (fun _ => ?_) (fun h => absurd (by decide) h)
  show PW _ _ _ _ _ _ (3371, [(0, .ref 1000000), (1, .ref 0), (2, .ref 467), (3, .ref 486), (4, .int 0)], [], _)
  refine PW.wide (k' := 500) (n' := 12000) (le_b rfl) (le_b rfl) ?_
  exact PW.drop (lv' := lvE) (fun q hq => by simp only [lvE, List.mem_cons, List.not_mem_nil, or_false] at hq; rcases hq with rfl | rfl | rfl | rfl | rfl <;> simp [lvE]) (hend _)
theorem law_46 {G : pG} {w : pW} {xs : Nat → Int32} (hl : (g_l G).stackTraces = false) (hC : Has cfL w.2) (hM : Has mfL w.2) (hs : w.2 1000000 = .inl (0, 6, .inl xs)) (hx : w.1 < 1000000) (hend : ∀ w' : pW, PW G M_Law_law room_1 (QL G) 500 12000 (3371, lvE, [], w')) : PW G M_Law_law room_1 (QL G) 487 11543 (2342, lvE, [], w) := by
  refine P_aload_n d_Law_law_2342 rfl ?_
  refine P_aload_n d_Law_law_2343 rfl ?_
  refine P_iload d_Law_law_2344 rfl ?_
  refine P_iconst (v := 1) d_Law_law_2346 (by decide) ?_
  refine P_iadd d_Law_law_2347 ?_
  refine P_iald (j := 1) d_Law_law_2348 hs ⟨by decide, by decide⟩ (by decide) ?_
  refine P_aload_n d_Law_law_2349 rfl ?_
  refine P_iload d_Law_law_2350 rfl ?_
  refine P_iconst (v := 2) d_Law_law_2352 (by decide) ?_
  refine P_iadd d_Law_law_2353 ?_
  refine P_iald (j := 2) d_Law_law_2354 hs ⟨by decide, by decide⟩ (by decide) ?_
  refine P_callV (M := M_Law_law) (pc := 2355) (as := [.int (xs 1), .int (xs 2)]) (b := 0) d_Law_law_2355 co_CM_symmetries ok_CM (fa hC 28 rfl) L_Law_223 im_CM_symmetries se_CM_symmetries (z_CM_symmetries hC (xs 1) (xs 2)) rfl ⟨by decide, by decide⟩ ⟨by decide, by decide⟩ (by exact le_b rfl) ?_ _ rfl
  rintro _ _ ⟨rfl, rfl⟩
  show PW _ _ _ _ _ _ (2358, _, [.int (-1)], _)
  refine P_aload_n d_Law_law_2358 rfl ?_
  refine P_aload_n d_Law_law_2359 rfl ?_
  refine P_iload d_Law_law_2360 rfl ?_
  refine P_iconst (v := 1) d_Law_law_2362 (by decide) ?_
  refine P_iadd d_Law_law_2363 ?_
  refine P_iald (j := 1) d_Law_law_2364 hs ⟨by decide, by decide⟩ (by decide) ?_
  refine P_aload_n d_Law_law_2365 rfl ?_
  refine P_iload d_Law_law_2366 rfl ?_
  refine P_iconst (v := 2) d_Law_law_2368 (by decide) ?_
  refine P_iadd d_Law_law_2369 ?_
  refine P_iald (j := 2) d_Law_law_2370 hs ⟨by decide, by decide⟩ (by decide) ?_
  refine P_callV (M := M_Law_law) (pc := 2371) (as := [.int (xs 1), .int (xs 2)]) (b := 467) d_Law_law_2371 co_MD_symmetries ok_Model (fa hM 18 rfl) L_Law_226 im_MD_symmetries se_MD_symmetries (z_MD_symmetries hM (xs 1) (xs 2)) rfl ⟨by decide, by decide⟩ ⟨by decide, by decide⟩ (by exact le_b rfl) ?_ _ rfl
  rintro _ _ ⟨rfl, rfl⟩
  show PW _ _ _ _ _ _ (2374, _, [.int (-1), .int (-1)], _)
  refine P_icmp_eq 3371 d_Law_law_2374 (by decide) (fun _ => ?_) (fun h => absurd (by decide) h)
  show PW _ _ _ _ _ _ (3371, [(0, .ref 1000000), (1, .ref 0), (2, .ref 467), (3, .ref 486), (4, .int 0)], [], _)
  refine PW.wide (k' := 500) (n' := 12000) (le_b rfl) (le_b rfl) ?_
  exact PW.drop (lv' := lvE) (fun q hq => by simp only [lvE, List.mem_cons, List.not_mem_nil, or_false] at hq; rcases hq with rfl | rfl | rfl | rfl | rfl <;> simp [lvE]) (hend _)
theorem law_47 {G : pG} {w : pW} {xs : Nat → Int32} (hl : (g_l G).stackTraces = false) (hC : Has cfL w.2) (hM : Has mfL w.2) (hs : w.2 1000000 = .inl (0, 6, .inl xs)) (hx : w.1 < 1000000) (hend : ∀ w' : pW, PW G M_Law_law room_1 (QL G) 500 12000 (3371, lvE, [], w')) : PW G M_Law_law room_1 (QL G) 487 11543 (2379, lvE, [], w) := by
  refine P_aload_n d_Law_law_2379 rfl ?_
  refine P_aload_n d_Law_law_2380 rfl ?_
  refine P_iload d_Law_law_2381 rfl ?_
  refine P_iconst (v := 1) d_Law_law_2383 (by decide) ?_
  refine P_iadd d_Law_law_2384 ?_
  refine P_iald (j := 1) d_Law_law_2385 hs ⟨by decide, by decide⟩ (by decide) ?_
  refine P_aload_n d_Law_law_2386 rfl ?_
  refine P_iload d_Law_law_2387 rfl ?_
  refine P_iconst (v := 2) d_Law_law_2389 (by decide) ?_
  refine P_iadd d_Law_law_2390 ?_
  refine P_iald (j := 2) d_Law_law_2391 hs ⟨by decide, by decide⟩ (by decide) ?_
  refine P_callV (M := M_Law_law) (pc := 2392) (as := [.int (xs 1), .int (xs 2)]) (b := 0) d_Law_law_2392 co_CM_symmetry ok_CM (fa hC 28 rfl) L_Law_227 im_CM_symmetry se_CM_symmetry (z_CM_symmetry hC (xs 1) (xs 2)) rfl ⟨by decide, by decide⟩ ⟨by decide, by decide⟩ (by exact le_b rfl) ?_ _ rfl
  rintro _ _ ⟨rfl, rfl⟩
  show PW _ _ _ _ _ _ (2395, _, [.int (-1)], _)
  refine P_aload_n d_Law_law_2395 rfl ?_
  refine P_aload_n d_Law_law_2396 rfl ?_
  refine P_iload d_Law_law_2397 rfl ?_
  refine P_iconst (v := 1) d_Law_law_2399 (by decide) ?_
  refine P_iadd d_Law_law_2400 ?_
  refine P_iald (j := 1) d_Law_law_2401 hs ⟨by decide, by decide⟩ (by decide) ?_
  refine P_aload_n d_Law_law_2402 rfl ?_
  refine P_iload d_Law_law_2403 rfl ?_
  refine P_iconst (v := 2) d_Law_law_2405 (by decide) ?_
  refine P_iadd d_Law_law_2406 ?_
  refine P_iald (j := 2) d_Law_law_2407 hs ⟨by decide, by decide⟩ (by decide) ?_
  refine P_callV (M := M_Law_law) (pc := 2408) (as := [.int (xs 1), .int (xs 2)]) (b := 467) d_Law_law_2408 co_MD_symmetry ok_Model (fa hM 18 rfl) L_Law_230 im_MD_symmetry se_MD_symmetry (z_MD_symmetry hM (xs 1) (xs 2)) rfl ⟨by decide, by decide⟩ ⟨by decide, by decide⟩ (by exact le_b rfl) ?_ _ rfl
  rintro _ _ ⟨rfl, rfl⟩
  show PW _ _ _ _ _ _ (2411, _, [.int (-1), .int (-1)], _)
  refine P_icmp_eq 3371 d_Law_law_2411 (by decide) (fun _ => ?_) (fun h => absurd (by decide) h)
  show PW _ _ _ _ _ _ (3371, [(0, .ref 1000000), (1, .ref 0), (2, .ref 467), (3, .ref 486), (4, .int 0)], [], _)
  refine PW.wide (k' := 500) (n' := 12000) (le_b rfl) (le_b rfl) ?_
  exact PW.drop (lv' := lvE) (fun q hq => by simp only [lvE, List.mem_cons, List.not_mem_nil, or_false] at hq; rcases hq with rfl | rfl | rfl | rfl | rfl <;> simp [lvE]) (hend _)
theorem law_48 {G : pG} {w : pW} {xs : Nat → Int32} (hl : (g_l G).stackTraces = false) (hC : Has cfL w.2) (hM : Has mfL w.2) (hs : w.2 1000000 = .inl (0, 6, .inl xs)) (hx : w.1 < 1000000) (hend : ∀ w' : pW, PW G M_Law_law room_1 (QL G) 500 12000 (3371, lvE, [], w')) : PW G M_Law_law room_1 (QL G) 487 11543 (2416, lvE, [], w) := by
  refine P_aload_n d_Law_law_2416 rfl ?_
  refine P_aload_n d_Law_law_2417 rfl ?_
  refine P_iload d_Law_law_2418 rfl ?_
  refine P_iconst (v := 1) d_Law_law_2420 (by decide) ?_
  refine P_iadd d_Law_law_2421 ?_
  refine P_iald (j := 1) d_Law_law_2422 hs ⟨by decide, by decide⟩ (by decide) ?_
  refine P_aload_n d_Law_law_2423 rfl ?_
  refine P_iload d_Law_law_2424 rfl ?_
  refine P_iconst (v := 2) d_Law_law_2426 (by decide) ?_
  refine P_iadd d_Law_law_2427 ?_
  refine P_iald (j := 2) d_Law_law_2428 hs ⟨by decide, by decide⟩ (by decide) ?_
  refine P_callV (M := M_Law_law) (pc := 2429) (as := [.int (xs 1), .int (xs 2)]) (b := 0) d_Law_law_2429 co_CM_word ok_CM (fa hC 28 rfl) L_Law_231 im_CM_word se_CM_word (z_CM_word hC (xs 1) (xs 2)) rfl ⟨by decide, by decide⟩ ⟨by decide, by decide⟩ (by exact le_b rfl) ?_ _ rfl
  rintro _ _ ⟨rfl, rfl⟩
  show PW _ _ _ _ _ _ (2432, _, [.int (-1)], _)
  refine P_aload_n d_Law_law_2432 rfl ?_
  refine P_aload_n d_Law_law_2433 rfl ?_
  refine P_iload d_Law_law_2434 rfl ?_
  refine P_iconst (v := 1) d_Law_law_2436 (by decide) ?_
  refine P_iadd d_Law_law_2437 ?_
  refine P_iald (j := 1) d_Law_law_2438 hs ⟨by decide, by decide⟩ (by decide) ?_
  refine P_aload_n d_Law_law_2439 rfl ?_
  refine P_iload d_Law_law_2440 rfl ?_
  refine P_iconst (v := 2) d_Law_law_2442 (by decide) ?_
  refine P_iadd d_Law_law_2443 ?_
  refine P_iald (j := 2) d_Law_law_2444 hs ⟨by decide, by decide⟩ (by decide) ?_
  refine P_callV (M := M_Law_law) (pc := 2445) (as := [.int (xs 1), .int (xs 2)]) (b := 467) d_Law_law_2445 co_MD_word ok_Model (fa hM 18 rfl) L_Law_234 im_MD_word se_MD_word (z_MD_word hM (xs 1) (xs 2)) rfl ⟨by decide, by decide⟩ ⟨by decide, by decide⟩ (by exact le_b rfl) ?_ _ rfl
  rintro _ _ ⟨rfl, rfl⟩
  show PW _ _ _ _ _ _ (2448, _, [.int (-1), .int (-1)], _)
  refine P_icmp_eq 3371 d_Law_law_2448 (by decide) (fun _ => ?_) (fun h => absurd (by decide) h)
  show PW _ _ _ _ _ _ (3371, [(0, .ref 1000000), (1, .ref 0), (2, .ref 467), (3, .ref 486), (4, .int 0)], [], _)
  refine PW.wide (k' := 500) (n' := 12000) (le_b rfl) (le_b rfl) ?_
  exact PW.drop (lv' := lvE) (fun q hq => by simp only [lvE, List.mem_cons, List.not_mem_nil, or_false] at hq; rcases hq with rfl | rfl | rfl | rfl | rfl <;> simp [lvE]) (hend _)
theorem law_49 {G : pG} {w : pW} {xs : Nat → Int32} (hl : (g_l G).stackTraces = false) (hC : Has cfL w.2) (hM : Has mfL w.2) (hs : w.2 1000000 = .inl (0, 6, .inl xs)) (hx : w.1 < 1000000) (hend : ∀ w' : pW, PW G M_Law_law room_1 (QL G) 500 12000 (3371, lvE, [], w')) : PW G M_Law_law room_1 (QL G) 487 11543 (2453, lvE, [], w) := by
  refine P_aload_n d_Law_law_2453 rfl ?_
  refine P_aload_n d_Law_law_2454 rfl ?_
  refine P_iload d_Law_law_2455 rfl ?_
  refine P_iconst (v := 1) d_Law_law_2457 (by decide) ?_
  refine P_iadd d_Law_law_2458 ?_
  refine P_iald (j := 1) d_Law_law_2459 hs ⟨by decide, by decide⟩ (by decide) ?_
  refine P_callV (M := M_Law_law) (pc := 2460) (as := [.int (xs 1)]) (b := 0) d_Law_law_2460 co_CM_generated ok_CM (fa hC 28 rfl) L_Law_235 im_CM_generated se_CM_generated (z_CM_generated hC (xs 1)) rfl ⟨by decide, by decide⟩ ⟨by decide, by decide⟩ (by exact le_b rfl) ?_ _ rfl
  rintro _ _ ⟨rfl, rfl⟩
  show PW _ _ _ _ _ _ (2463, _, [.int (ff 1 2 0 (-1) (xs 1))], _)
  refine P_aload_n d_Law_law_2463 rfl ?_
  refine P_aload_n d_Law_law_2464 rfl ?_
  refine P_iload d_Law_law_2465 rfl ?_
  refine P_iconst (v := 1) d_Law_law_2467 (by decide) ?_
  refine P_iadd d_Law_law_2468 ?_
  refine P_iald (j := 1) d_Law_law_2469 hs ⟨by decide, by decide⟩ (by decide) ?_
  refine P_callV (M := M_Law_law) (pc := 2470) (as := [.int (xs 1)]) (b := 467) d_Law_law_2470 co_MD_generated ok_Model (fa hM 18 rfl) L_Law_238 im_MD_generated se_MD_generated (z_MD_generated hM (xs 1)) rfl ⟨by decide, by decide⟩ ⟨by decide, by decide⟩ (by exact le_b rfl) ?_ _ rfl
  rintro _ _ ⟨rfl, rfl⟩
  show PW _ _ _ _ _ _ (2473, _, [.int (ff 1 2 0 (-1) (xs 1)), .int (ff 1 2 0 (-1) (xs 1))], _)
  refine P_icmp_eq 3371 d_Law_law_2473 (by decide) (fun _ => ?_) (fun h => absurd rfl h)
  show PW _ _ _ _ _ _ (3371, [(0, .ref 1000000), (1, .ref 0), (2, .ref 467), (3, .ref 486), (4, .int 0)], [], _)
  refine PW.wide (k' := 500) (n' := 12000) (le_b rfl) (le_b rfl) ?_
  exact PW.drop (lv' := lvE) (fun q hq => by simp only [lvE, List.mem_cons, List.not_mem_nil, or_false] at hq; rcases hq with rfl | rfl | rfl | rfl | rfl <;> simp [lvE]) (hend _)
theorem law_50 {G : pG} {w : pW} {xs : Nat → Int32} (hl : (g_l G).stackTraces = false) (hC : Has cfL w.2) (hM : Has mfL w.2) (hs : w.2 1000000 = .inl (0, 6, .inl xs)) (hx : w.1 < 1000000) (hend : ∀ w' : pW, PW G M_Law_law room_1 (QL G) 500 12000 (3371, lvE, [], w')) : PW G M_Law_law room_1 (QL G) 487 11543 (2478, lvE, [], w) := by
  refine P_aload_n d_Law_law_2478 rfl ?_
  refine P_aload_n d_Law_law_2479 rfl ?_
  refine P_iload d_Law_law_2480 rfl ?_
  refine P_iconst (v := 1) d_Law_law_2482 (by decide) ?_
  refine P_iadd d_Law_law_2483 ?_
  refine P_iald (j := 1) d_Law_law_2484 hs ⟨by decide, by decide⟩ (by decide) ?_
  refine P_aload_n d_Law_law_2485 rfl ?_
  refine P_iload d_Law_law_2486 rfl ?_
  refine P_iconst (v := 2) d_Law_law_2488 (by decide) ?_
  refine P_iadd d_Law_law_2489 ?_
  refine P_iald (j := 2) d_Law_law_2490 hs ⟨by decide, by decide⟩ (by decide) ?_
  refine P_aload_n d_Law_law_2491 rfl ?_
  refine P_iload d_Law_law_2492 rfl ?_
  refine P_iconst (v := 3) d_Law_law_2494 (by decide) ?_
  refine P_iadd d_Law_law_2495 ?_
  refine P_iald (j := 3) d_Law_law_2496 hs ⟨by decide, by decide⟩ (by decide) ?_
  refine P_callV (M := M_Law_law) (pc := 2497) (as := [.int (xs 1), .int (xs 2), .int (xs 3)]) (b := 0) d_Law_law_2497 co_CM_leads ok_CM (fa hC 28 rfl) L_Law_239 im_CM_leads se_CM_leads (z_CM_leads hC (xs 1) (xs 2) (xs 3)) rfl ⟨by decide, by decide⟩ ⟨by decide, by decide⟩ (by exact le_b rfl) ?_ _ rfl
  rintro _ _ ⟨rfl, rfl⟩
  show PW _ _ _ _ _ _ (2500, _, [.int (-1)], _)
  refine P_aload_n d_Law_law_2500 rfl ?_
  refine P_aload_n d_Law_law_2501 rfl ?_
  refine P_iload d_Law_law_2502 rfl ?_
  refine P_iconst (v := 1) d_Law_law_2504 (by decide) ?_
  refine P_iadd d_Law_law_2505 ?_
  refine P_iald (j := 1) d_Law_law_2506 hs ⟨by decide, by decide⟩ (by decide) ?_
  refine P_aload_n d_Law_law_2507 rfl ?_
  refine P_iload d_Law_law_2508 rfl ?_
  refine P_iconst (v := 2) d_Law_law_2510 (by decide) ?_
  refine P_iadd d_Law_law_2511 ?_
  refine P_iald (j := 2) d_Law_law_2512 hs ⟨by decide, by decide⟩ (by decide) ?_
  refine P_aload_n d_Law_law_2513 rfl ?_
  refine P_iload d_Law_law_2514 rfl ?_
  refine P_iconst (v := 3) d_Law_law_2516 (by decide) ?_
  refine P_iadd d_Law_law_2517 ?_
  refine P_iald (j := 3) d_Law_law_2518 hs ⟨by decide, by decide⟩ (by decide) ?_
  refine P_callV (M := M_Law_law) (pc := 2519) (as := [.int (xs 1), .int (xs 2), .int (xs 3)]) (b := 467) d_Law_law_2519 co_MD_leads ok_Model (fa hM 18 rfl) L_Law_242 im_MD_leads se_MD_leads (z_MD_leads hM (xs 1) (xs 2) (xs 3)) rfl ⟨by decide, by decide⟩ ⟨by decide, by decide⟩ (by exact le_b rfl) ?_ _ rfl
  rintro _ _ ⟨rfl, rfl⟩
  show PW _ _ _ _ _ _ (2522, _, [.int (-1), .int (-1)], _)
  refine P_icmp_eq 3371 d_Law_law_2522 (by decide) (fun _ => ?_) (fun h => absurd (by decide) h)
  show PW _ _ _ _ _ _ (3371, [(0, .ref 1000000), (1, .ref 0), (2, .ref 467), (3, .ref 486), (4, .int 0)], [], _)
  refine PW.wide (k' := 500) (n' := 12000) (le_b rfl) (le_b rfl) ?_
  exact PW.drop (lv' := lvE) (fun q hq => by simp only [lvE, List.mem_cons, List.not_mem_nil, or_false] at hq; rcases hq with rfl | rfl | rfl | rfl | rfl <;> simp [lvE]) (hend _)
theorem law_51 {G : pG} {w : pW} {xs : Nat → Int32} (hl : (g_l G).stackTraces = false) (hC : Has cfL w.2) (hM : Has mfL w.2) (hs : w.2 1000000 = .inl (0, 6, .inl xs)) (hx : w.1 < 1000000) (hend : ∀ w' : pW, PW G M_Law_law room_1 (QL G) 500 12000 (3371, lvE, [], w')) : PW G M_Law_law room_1 (QL G) 487 11543 (2527, lvE, [], w) := by
  refine P_aload_n d_Law_law_2527 rfl ?_
  refine P_aload_n d_Law_law_2528 rfl ?_
  refine P_iload d_Law_law_2529 rfl ?_
  refine P_iconst (v := 1) d_Law_law_2531 (by decide) ?_
  refine P_iadd d_Law_law_2532 ?_
  refine P_iald (j := 1) d_Law_law_2533 hs ⟨by decide, by decide⟩ (by decide) ?_
  refine P_aload_n d_Law_law_2534 rfl ?_
  refine P_iload d_Law_law_2535 rfl ?_
  refine P_iconst (v := 2) d_Law_law_2537 (by decide) ?_
  refine P_iadd d_Law_law_2538 ?_
  refine P_iald (j := 2) d_Law_law_2539 hs ⟨by decide, by decide⟩ (by decide) ?_
  refine P_aload_n d_Law_law_2540 rfl ?_
  refine P_iload d_Law_law_2541 rfl ?_
  refine P_iconst (v := 3) d_Law_law_2543 (by decide) ?_
  refine P_iadd d_Law_law_2544 ?_
  refine P_iald (j := 3) d_Law_law_2545 hs ⟨by decide, by decide⟩ (by decide) ?_
  refine P_aload_n d_Law_law_2546 rfl ?_
  refine P_iload d_Law_law_2547 rfl ?_
  refine P_iconst (v := 4) d_Law_law_2549 (by decide) ?_
  refine P_iadd d_Law_law_2550 ?_
  refine P_iald (j := 4) d_Law_law_2551 hs ⟨by decide, by decide⟩ (by decide) ?_
  refine P_aload_n d_Law_law_2552 rfl ?_
  refine P_iload d_Law_law_2553 rfl ?_
  refine P_iconst (v := 5) d_Law_law_2555 (by decide) ?_
  refine P_iadd d_Law_law_2556 ?_
  refine P_iald (j := 5) d_Law_law_2557 hs ⟨by decide, by decide⟩ (by decide) ?_
  refine P_callV (M := M_Law_law) (pc := 2558) (as := [.int (xs 1), .int (xs 2), .int (xs 3), .int (xs 4), .int (xs 5)]) (b := 0) d_Law_law_2558 co_CM_pull ok_CM (fa hC 28 rfl) L_Law_243 im_CM_pull se_CM_pull (z_CM_pull hC (xs 1) (xs 2) (xs 3) (xs 4) (xs 5)) rfl ⟨by decide, by decide⟩ ⟨by decide, by decide⟩ (by exact le_b rfl) ?_ _ rfl
  rintro _ _ ⟨rfl, rfl⟩
  show PW _ _ _ _ _ _ (2561, _, [.long (-9223372036854775808)], _)
  refine P_aload_n d_Law_law_2561 rfl ?_
  refine P_aload_n d_Law_law_2562 rfl ?_
  refine P_iload d_Law_law_2563 rfl ?_
  refine P_iconst (v := 1) d_Law_law_2565 (by decide) ?_
  refine P_iadd d_Law_law_2566 ?_
  refine P_iald (j := 1) d_Law_law_2567 hs ⟨by decide, by decide⟩ (by decide) ?_
  refine P_aload_n d_Law_law_2568 rfl ?_
  refine P_iload d_Law_law_2569 rfl ?_
  refine P_iconst (v := 2) d_Law_law_2571 (by decide) ?_
  refine P_iadd d_Law_law_2572 ?_
  refine P_iald (j := 2) d_Law_law_2573 hs ⟨by decide, by decide⟩ (by decide) ?_
  refine P_aload_n d_Law_law_2574 rfl ?_
  refine P_iload d_Law_law_2575 rfl ?_
  refine P_iconst (v := 3) d_Law_law_2577 (by decide) ?_
  refine P_iadd d_Law_law_2578 ?_
  refine P_iald (j := 3) d_Law_law_2579 hs ⟨by decide, by decide⟩ (by decide) ?_
  refine P_aload_n d_Law_law_2580 rfl ?_
  refine P_iload d_Law_law_2581 rfl ?_
  refine P_iconst (v := 4) d_Law_law_2583 (by decide) ?_
  refine P_iadd d_Law_law_2584 ?_
  refine P_iald (j := 4) d_Law_law_2585 hs ⟨by decide, by decide⟩ (by decide) ?_
  refine P_aload_n d_Law_law_2586 rfl ?_
  refine P_iload d_Law_law_2587 rfl ?_
  refine P_iconst (v := 5) d_Law_law_2589 (by decide) ?_
  refine P_iadd d_Law_law_2590 ?_
  refine P_iald (j := 5) d_Law_law_2591 hs ⟨by decide, by decide⟩ (by decide) ?_
  refine P_callV (M := M_Law_law) (pc := 2592) (as := [.int (xs 1), .int (xs 2), .int (xs 3), .int (xs 4), .int (xs 5)]) (b := 467) d_Law_law_2592 co_MD_pull ok_Model (fa hM 18 rfl) L_Law_246 im_MD_pull se_MD_pull (z_MD_pull hM (xs 1) (xs 2) (xs 3) (xs 4) (xs 5)) rfl ⟨by decide, by decide⟩ ⟨by decide, by decide⟩ (by exact le_b rfl) ?_ _ rfl
  rintro _ _ ⟨rfl, rfl⟩
  show PW _ _ _ _ _ _ (2595, _, [.long (-9223372036854775808), .long (-9223372036854775808)], _)
  refine P_lcmp d_Law_law_2595 ?_
  refine P_if_eq 3371 d_Law_law_2596 (by decide) (fun _ => ?_) (fun h => absurd (by decide) h)
  show PW _ _ _ _ _ _ (3371, [(0, .ref 1000000), (1, .ref 0), (2, .ref 467), (3, .ref 486), (4, .int 0)], [], _)
  refine PW.wide (k' := 500) (n' := 12000) (le_b rfl) (le_b rfl) ?_
  exact PW.drop (lv' := lvE) (fun q hq => by simp only [lvE, List.mem_cons, List.not_mem_nil, or_false] at hq; rcases hq with rfl | rfl | rfl | rfl | rfl <;> simp [lvE]) (hend _)
theorem law_52 {G : pG} {w : pW} {xs : Nat → Int32} (hl : (g_l G).stackTraces = false) (hC : Has cfL w.2) (hM : Has mfL w.2) (hs : w.2 1000000 = .inl (0, 6, .inl xs)) (hx : w.1 < 1000000) (hend : ∀ w' : pW, PW G M_Law_law room_1 (QL G) 500 12000 (3371, lvE, [], w')) : PW G M_Law_law room_1 (QL G) 487 11543 (2601, lvE, [], w) := by
  refine P_aload_n d_Law_law_2601 rfl ?_
  refine P_aload_n d_Law_law_2602 rfl ?_
  refine P_iload d_Law_law_2603 rfl ?_
  refine P_iconst (v := 1) d_Law_law_2605 (by decide) ?_
  refine P_iadd d_Law_law_2606 ?_
  refine P_iald (j := 1) d_Law_law_2607 hs ⟨by decide, by decide⟩ (by decide) ?_
  refine P_aload_n d_Law_law_2608 rfl ?_
  refine P_iload d_Law_law_2609 rfl ?_
  refine P_iconst (v := 2) d_Law_law_2611 (by decide) ?_
  refine P_iadd d_Law_law_2612 ?_
  refine P_iald (j := 2) d_Law_law_2613 hs ⟨by decide, by decide⟩ (by decide) ?_
  refine P_aload_n d_Law_law_2614 rfl ?_
  refine P_iload d_Law_law_2615 rfl ?_
  refine P_iconst (v := 3) d_Law_law_2617 (by decide) ?_
  refine P_iadd d_Law_law_2618 ?_
  refine P_iald (j := 3) d_Law_law_2619 hs ⟨by decide, by decide⟩ (by decide) ?_
  refine P_aload_n d_Law_law_2620 rfl ?_
  refine P_iload d_Law_law_2621 rfl ?_
  refine P_iconst (v := 4) d_Law_law_2623 (by decide) ?_
  refine P_iadd d_Law_law_2624 ?_
  refine P_iald (j := 4) d_Law_law_2625 hs ⟨by decide, by decide⟩ (by decide) ?_
  refine P_callV (M := M_Law_law) (pc := 2626) (as := [.int (xs 1), .int (xs 2), .int (xs 3), .int (xs 4)]) (b := 0) d_Law_law_2626 co_CM_keepsLine ok_CM (fa hC 28 rfl) L_Law_247 im_CM_keepsLine se_CM_keepsLine (z_CM_keepsLine hC (xs 1) (xs 2) (xs 3) (xs 4)) rfl ⟨by decide, by decide⟩ ⟨by decide, by decide⟩ (by exact le_b rfl) ?_ _ rfl
  rintro _ _ ⟨rfl, rfl⟩
  show PW _ _ _ _ _ _ (2629, _, [.int (-1)], _)
  refine P_aload_n d_Law_law_2629 rfl ?_
  refine P_aload_n d_Law_law_2630 rfl ?_
  refine P_iload d_Law_law_2631 rfl ?_
  refine P_iconst (v := 1) d_Law_law_2633 (by decide) ?_
  refine P_iadd d_Law_law_2634 ?_
  refine P_iald (j := 1) d_Law_law_2635 hs ⟨by decide, by decide⟩ (by decide) ?_
  refine P_aload_n d_Law_law_2636 rfl ?_
  refine P_iload d_Law_law_2637 rfl ?_
  refine P_iconst (v := 2) d_Law_law_2639 (by decide) ?_
  refine P_iadd d_Law_law_2640 ?_
  refine P_iald (j := 2) d_Law_law_2641 hs ⟨by decide, by decide⟩ (by decide) ?_
  refine P_aload_n d_Law_law_2642 rfl ?_
  refine P_iload d_Law_law_2643 rfl ?_
  refine P_iconst (v := 3) d_Law_law_2645 (by decide) ?_
  refine P_iadd d_Law_law_2646 ?_
  refine P_iald (j := 3) d_Law_law_2647 hs ⟨by decide, by decide⟩ (by decide) ?_
  refine P_aload_n d_Law_law_2648 rfl ?_
  refine P_iload d_Law_law_2649 rfl ?_
  refine P_iconst (v := 4) d_Law_law_2651 (by decide) ?_
  refine P_iadd d_Law_law_2652 ?_
  refine P_iald (j := 4) d_Law_law_2653 hs ⟨by decide, by decide⟩ (by decide) ?_
  refine P_callV (M := M_Law_law) (pc := 2654) (as := [.int (xs 1), .int (xs 2), .int (xs 3), .int (xs 4)]) (b := 467) d_Law_law_2654 co_MD_keepsLine ok_Model (fa hM 18 rfl) L_Law_251 im_MD_keepsLine se_MD_keepsLine (z_MD_keepsLine hM (xs 1) (xs 2) (xs 3) (xs 4)) rfl ⟨by decide, by decide⟩ ⟨by decide, by decide⟩ (by exact le_b rfl) ?_ _ rfl
  rintro _ _ ⟨rfl, rfl⟩
  show PW _ _ _ _ _ _ (2657, _, [.int (-1), .int (-1)], _)
  refine P_icmp_eq 3371 d_Law_law_2657 (by decide) (fun _ => ?_) (fun h => absurd (by decide) h)
  show PW _ _ _ _ _ _ (3371, [(0, .ref 1000000), (1, .ref 0), (2, .ref 467), (3, .ref 486), (4, .int 0)], [], _)
  refine PW.wide (k' := 500) (n' := 12000) (le_b rfl) (le_b rfl) ?_
  exact PW.drop (lv' := lvE) (fun q hq => by simp only [lvE, List.mem_cons, List.not_mem_nil, or_false] at hq; rcases hq with rfl | rfl | rfl | rfl | rfl <;> simp [lvE]) (hend _)
theorem law_53 {G : pG} {w : pW} {xs : Nat → Int32} (hl : (g_l G).stackTraces = false) (hC : Has cfL w.2) (hM : Has mfL w.2) (hs : w.2 1000000 = .inl (0, 6, .inl xs)) (hx : w.1 < 1000000) (hend : ∀ w' : pW, PW G M_Law_law room_1 (QL G) 500 12000 (3371, lvE, [], w')) : PW G M_Law_law room_1 (QL G) 487 11543 (2662, lvE, [], w) := by
  refine P_aload_n d_Law_law_2662 rfl ?_
  refine P_aload_n d_Law_law_2663 rfl ?_
  refine P_iload d_Law_law_2664 rfl ?_
  refine P_iconst (v := 1) d_Law_law_2666 (by decide) ?_
  refine P_iadd d_Law_law_2667 ?_
  refine P_iald (j := 1) d_Law_law_2668 hs ⟨by decide, by decide⟩ (by decide) ?_
  refine P_aload_n d_Law_law_2669 rfl ?_
  refine P_iload d_Law_law_2670 rfl ?_
  refine P_iconst (v := 2) d_Law_law_2672 (by decide) ?_
  refine P_iadd d_Law_law_2673 ?_
  refine P_iald (j := 2) d_Law_law_2674 hs ⟨by decide, by decide⟩ (by decide) ?_
  refine P_aload_n d_Law_law_2675 rfl ?_
  refine P_iload d_Law_law_2676 rfl ?_
  refine P_iconst (v := 3) d_Law_law_2678 (by decide) ?_
  refine P_iadd d_Law_law_2679 ?_
  refine P_iald (j := 3) d_Law_law_2680 hs ⟨by decide, by decide⟩ (by decide) ?_
  refine P_callV (M := M_Law_law) (pc := 2681) (as := [.int (xs 1), .int (xs 2), .int (xs 3)]) (b := 0) d_Law_law_2681 co_CM_side ok_CM (fa hC 28 rfl) L_Law_252 im_CM_side se_CM_side (z_CM_side hC (xs 1) (xs 2) (xs 3)) rfl ⟨by decide, by decide⟩ ⟨by decide, by decide⟩ (by exact le_b rfl) ?_ _ rfl
  rintro _ _ ⟨rfl, rfl⟩
  show PW _ _ _ _ _ _ (2684, _, [.long (-9223372036854775808)], _)
  refine P_aload_n d_Law_law_2684 rfl ?_
  refine P_aload_n d_Law_law_2685 rfl ?_
  refine P_iload d_Law_law_2686 rfl ?_
  refine P_iconst (v := 1) d_Law_law_2688 (by decide) ?_
  refine P_iadd d_Law_law_2689 ?_
  refine P_iald (j := 1) d_Law_law_2690 hs ⟨by decide, by decide⟩ (by decide) ?_
  refine P_aload_n d_Law_law_2691 rfl ?_
  refine P_iload d_Law_law_2692 rfl ?_
  refine P_iconst (v := 2) d_Law_law_2694 (by decide) ?_
  refine P_iadd d_Law_law_2695 ?_
  refine P_iald (j := 2) d_Law_law_2696 hs ⟨by decide, by decide⟩ (by decide) ?_
  refine P_aload_n d_Law_law_2697 rfl ?_
  refine P_iload d_Law_law_2698 rfl ?_
  refine P_iconst (v := 3) d_Law_law_2700 (by decide) ?_
  refine P_iadd d_Law_law_2701 ?_
  refine P_iald (j := 3) d_Law_law_2702 hs ⟨by decide, by decide⟩ (by decide) ?_
  refine P_callV (M := M_Law_law) (pc := 2703) (as := [.int (xs 1), .int (xs 2), .int (xs 3)]) (b := 467) d_Law_law_2703 co_MD_side ok_Model (fa hM 18 rfl) L_Law_255 im_MD_side se_MD_side (z_MD_side hM (xs 1) (xs 2) (xs 3)) rfl ⟨by decide, by decide⟩ ⟨by decide, by decide⟩ (by exact le_b rfl) ?_ _ rfl
  rintro _ _ ⟨rfl, rfl⟩
  show PW _ _ _ _ _ _ (2706, _, [.long (-9223372036854775808), .long (-9223372036854775808)], _)
  refine P_lcmp d_Law_law_2706 ?_
  refine P_if_eq 3371 d_Law_law_2707 (by decide) (fun _ => ?_) (fun h => absurd (by decide) h)
  show PW _ _ _ _ _ _ (3371, [(0, .ref 1000000), (1, .ref 0), (2, .ref 467), (3, .ref 486), (4, .int 0)], [], _)
  refine PW.wide (k' := 500) (n' := 12000) (le_b rfl) (le_b rfl) ?_
  exact PW.drop (lv' := lvE) (fun q hq => by simp only [lvE, List.mem_cons, List.not_mem_nil, or_false] at hq; rcases hq with rfl | rfl | rfl | rfl | rfl <;> simp [lvE]) (hend _)
theorem law_54 {G : pG} {w : pW} {xs : Nat → Int32} (hl : (g_l G).stackTraces = false) (hC : Has cfL w.2) (hM : Has mfL w.2) (hs : w.2 1000000 = .inl (0, 6, .inl xs)) (hx : w.1 < 1000000) (hend : ∀ w' : pW, PW G M_Law_law room_1 (QL G) 500 12000 (3371, lvE, [], w')) : PW G M_Law_law room_1 (QL G) 487 11543 (2712, lvE, [], w) := by
  refine P_aload_n d_Law_law_2712 rfl ?_
  refine P_aload_n d_Law_law_2713 rfl ?_
  refine P_iload d_Law_law_2714 rfl ?_
  refine P_iconst (v := 1) d_Law_law_2716 (by decide) ?_
  refine P_iadd d_Law_law_2717 ?_
  refine P_iald (j := 1) d_Law_law_2718 hs ⟨by decide, by decide⟩ (by decide) ?_
  refine P_aload_n d_Law_law_2719 rfl ?_
  refine P_iload d_Law_law_2720 rfl ?_
  refine P_iconst (v := 2) d_Law_law_2722 (by decide) ?_
  refine P_iadd d_Law_law_2723 ?_
  refine P_iald (j := 2) d_Law_law_2724 hs ⟨by decide, by decide⟩ (by decide) ?_
  refine P_aload_n d_Law_law_2725 rfl ?_
  refine P_iload d_Law_law_2726 rfl ?_
  refine P_iconst (v := 3) d_Law_law_2728 (by decide) ?_
  refine P_iadd d_Law_law_2729 ?_
  refine P_iald (j := 3) d_Law_law_2730 hs ⟨by decide, by decide⟩ (by decide) ?_
  refine P_callV (M := M_Law_law) (pc := 2731) (as := [.int (xs 1), .int (xs 2), .int (xs 3)]) (b := 0) d_Law_law_2731 co_CM_turnOf ok_CM (fa hC 28 rfl) L_Law_256 im_CM_turnOf se_CM_turnOf (z_CM_turnOf hC (xs 1) (xs 2) (xs 3)) rfl ⟨by decide, by decide⟩ ⟨by decide, by decide⟩ (by exact le_b rfl) ?_ _ rfl
  rintro _ _ ⟨rfl, rfl⟩
  show PW _ _ _ _ _ _ (2734, _, [.int (-3)], _)
  refine P_aload_n d_Law_law_2734 rfl ?_
  refine P_aload_n d_Law_law_2735 rfl ?_
  refine P_iload d_Law_law_2736 rfl ?_
  refine P_iconst (v := 1) d_Law_law_2738 (by decide) ?_
  refine P_iadd d_Law_law_2739 ?_
  refine P_iald (j := 1) d_Law_law_2740 hs ⟨by decide, by decide⟩ (by decide) ?_
  refine P_aload_n d_Law_law_2741 rfl ?_
  refine P_iload d_Law_law_2742 rfl ?_
  refine P_iconst (v := 2) d_Law_law_2744 (by decide) ?_
  refine P_iadd d_Law_law_2745 ?_
  refine P_iald (j := 2) d_Law_law_2746 hs ⟨by decide, by decide⟩ (by decide) ?_
  refine P_aload_n d_Law_law_2747 rfl ?_
  refine P_iload d_Law_law_2748 rfl ?_
  refine P_iconst (v := 3) d_Law_law_2750 (by decide) ?_
  refine P_iadd d_Law_law_2751 ?_
  refine P_iald (j := 3) d_Law_law_2752 hs ⟨by decide, by decide⟩ (by decide) ?_
  refine P_callV (M := M_Law_law) (pc := 2753) (as := [.int (xs 1), .int (xs 2), .int (xs 3)]) (b := 467) d_Law_law_2753 co_MD_turnOf ok_Model (fa hM 18 rfl) L_Law_259 im_MD_turnOf se_MD_turnOf (z_MD_turnOf hM (xs 1) (xs 2) (xs 3)) rfl ⟨by decide, by decide⟩ ⟨by decide, by decide⟩ (by exact le_b rfl) ?_ _ rfl
  rintro _ _ ⟨rfl, rfl⟩
  show PW _ _ _ _ _ _ (2756, _, [.int (-3), .int (-3)], _)
  refine P_icmp_eq 3371 d_Law_law_2756 (by decide) (fun _ => ?_) (fun h => absurd (by decide) h)
  show PW _ _ _ _ _ _ (3371, [(0, .ref 1000000), (1, .ref 0), (2, .ref 467), (3, .ref 486), (4, .int 0)], [], _)
  refine PW.wide (k' := 500) (n' := 12000) (le_b rfl) (le_b rfl) ?_
  exact PW.drop (lv' := lvE) (fun q hq => by simp only [lvE, List.mem_cons, List.not_mem_nil, or_false] at hq; rcases hq with rfl | rfl | rfl | rfl | rfl <;> simp [lvE]) (hend _)
theorem law_55 {G : pG} {w : pW} {xs : Nat → Int32} (hl : (g_l G).stackTraces = false) (hC : Has cfL w.2) (hM : Has mfL w.2) (hs : w.2 1000000 = .inl (0, 6, .inl xs)) (hx : w.1 < 1000000) (hend : ∀ w' : pW, PW G M_Law_law room_1 (QL G) 500 12000 (3371, lvE, [], w')) : PW G M_Law_law room_1 (QL G) 487 11543 (2761, lvE, [], w) := by
  refine P_aload_n d_Law_law_2761 rfl ?_
  refine P_aload_n d_Law_law_2762 rfl ?_
  refine P_iload d_Law_law_2763 rfl ?_
  refine P_iconst (v := 1) d_Law_law_2765 (by decide) ?_
  refine P_iadd d_Law_law_2766 ?_
  refine P_iald (j := 1) d_Law_law_2767 hs ⟨by decide, by decide⟩ (by decide) ?_
  refine P_aload_n d_Law_law_2768 rfl ?_
  refine P_iload d_Law_law_2769 rfl ?_
  refine P_iconst (v := 2) d_Law_law_2771 (by decide) ?_
  refine P_iadd d_Law_law_2772 ?_
  refine P_iald (j := 2) d_Law_law_2773 hs ⟨by decide, by decide⟩ (by decide) ?_
  refine P_aload_n d_Law_law_2774 rfl ?_
  refine P_iload d_Law_law_2775 rfl ?_
  refine P_iconst (v := 3) d_Law_law_2777 (by decide) ?_
  refine P_iadd d_Law_law_2778 ?_
  refine P_iald (j := 3) d_Law_law_2779 hs ⟨by decide, by decide⟩ (by decide) ?_
  refine P_callV (M := M_Law_law) (pc := 2780) (as := [.int (xs 1), .int (xs 2), .int (xs 3)]) (b := 0) d_Law_law_2780 co_CM_gap ok_CM (fa hC 28 rfl) L_Law_260 im_CM_gap se_CM_gap (z_CM_gap hC (xs 1) (xs 2) (xs 3)) rfl ⟨by decide, by decide⟩ ⟨by decide, by decide⟩ (by exact le_b rfl) ?_ _ rfl
  rintro _ _ ⟨rfl, rfl⟩
  show PW _ _ _ _ _ _ (2783, _, [.long (-9223372036854775808)], _)
  refine P_aload_n d_Law_law_2783 rfl ?_
  refine P_aload_n d_Law_law_2784 rfl ?_
  refine P_iload d_Law_law_2785 rfl ?_
  refine P_iconst (v := 1) d_Law_law_2787 (by decide) ?_
  refine P_iadd d_Law_law_2788 ?_
  refine P_iald (j := 1) d_Law_law_2789 hs ⟨by decide, by decide⟩ (by decide) ?_
  refine P_aload_n d_Law_law_2790 rfl ?_
  refine P_iload d_Law_law_2791 rfl ?_
  refine P_iconst (v := 2) d_Law_law_2793 (by decide) ?_
  refine P_iadd d_Law_law_2794 ?_
  refine P_iald (j := 2) d_Law_law_2795 hs ⟨by decide, by decide⟩ (by decide) ?_
  refine P_aload_n d_Law_law_2796 rfl ?_
  refine P_iload d_Law_law_2797 rfl ?_
  refine P_iconst (v := 3) d_Law_law_2799 (by decide) ?_
  refine P_iadd d_Law_law_2800 ?_
  refine P_iald (j := 3) d_Law_law_2801 hs ⟨by decide, by decide⟩ (by decide) ?_
  refine P_callV (M := M_Law_law) (pc := 2802) (as := [.int (xs 1), .int (xs 2), .int (xs 3)]) (b := 467) d_Law_law_2802 co_MD_gap ok_Model (fa hM 18 rfl) L_Law_263 im_MD_gap se_MD_gap (z_MD_gap hM (xs 1) (xs 2) (xs 3)) rfl ⟨by decide, by decide⟩ ⟨by decide, by decide⟩ (by exact le_b rfl) ?_ _ rfl
  rintro _ _ ⟨rfl, rfl⟩
  show PW _ _ _ _ _ _ (2805, _, [.long (-9223372036854775808), .long (-9223372036854775808)], _)
  refine P_lcmp d_Law_law_2805 ?_
  refine P_if_eq 3371 d_Law_law_2806 (by decide) (fun _ => ?_) (fun h => absurd (by decide) h)
  show PW _ _ _ _ _ _ (3371, [(0, .ref 1000000), (1, .ref 0), (2, .ref 467), (3, .ref 486), (4, .int 0)], [], _)
  refine PW.wide (k' := 500) (n' := 12000) (le_b rfl) (le_b rfl) ?_
  exact PW.drop (lv' := lvE) (fun q hq => by simp only [lvE, List.mem_cons, List.not_mem_nil, or_false] at hq; rcases hq with rfl | rfl | rfl | rfl | rfl <;> simp [lvE]) (hend _)
theorem law_56 {G : pG} {w : pW} {xs : Nat → Int32} (hl : (g_l G).stackTraces = false) (hC : Has cfL w.2) (hM : Has mfL w.2) (hs : w.2 1000000 = .inl (0, 6, .inl xs)) (hx : w.1 < 1000000) (hend : ∀ w' : pW, PW G M_Law_law room_1 (QL G) 500 12000 (3371, lvE, [], w')) : PW G M_Law_law room_1 (QL G) 487 11543 (2811, lvE, [], w) := by
  refine P_aload_n d_Law_law_2811 rfl ?_
  refine P_aload_n d_Law_law_2812 rfl ?_
  refine P_iload d_Law_law_2813 rfl ?_
  refine P_iconst (v := 1) d_Law_law_2815 (by decide) ?_
  refine P_iadd d_Law_law_2816 ?_
  refine P_iald (j := 1) d_Law_law_2817 hs ⟨by decide, by decide⟩ (by decide) ?_
  refine P_aload_n d_Law_law_2818 rfl ?_
  refine P_iload d_Law_law_2819 rfl ?_
  refine P_iconst (v := 2) d_Law_law_2821 (by decide) ?_
  refine P_iadd d_Law_law_2822 ?_
  refine P_iald (j := 2) d_Law_law_2823 hs ⟨by decide, by decide⟩ (by decide) ?_
  refine P_aload_n d_Law_law_2824 rfl ?_
  refine P_iload d_Law_law_2825 rfl ?_
  refine P_iconst (v := 3) d_Law_law_2827 (by decide) ?_
  refine P_iadd d_Law_law_2828 ?_
  refine P_iald (j := 3) d_Law_law_2829 hs ⟨by decide, by decide⟩ (by decide) ?_
  refine P_callV (M := M_Law_law) (pc := 2830) (as := [.int (xs 1), .int (xs 2), .int (xs 3)]) (b := 0) d_Law_law_2830 co_CM_middle ok_CM (fa hC 28 rfl) L_Law_264 im_CM_middle se_CM_middle (z_CM_middle hC (xs 1) (xs 2) (xs 3)) rfl ⟨by decide, by decide⟩ ⟨by decide, by decide⟩ (by exact le_b rfl) ?_ _ rfl
  rintro _ _ ⟨rfl, rfl⟩
  show PW _ _ _ _ _ _ (2833, _, [.long (-9223372036854775808)], _)
  refine P_aload_n d_Law_law_2833 rfl ?_
  refine P_aload_n d_Law_law_2834 rfl ?_
  refine P_iload d_Law_law_2835 rfl ?_
  refine P_iconst (v := 1) d_Law_law_2837 (by decide) ?_
  refine P_iadd d_Law_law_2838 ?_
  refine P_iald (j := 1) d_Law_law_2839 hs ⟨by decide, by decide⟩ (by decide) ?_
  refine P_aload_n d_Law_law_2840 rfl ?_
  refine P_iload d_Law_law_2841 rfl ?_
  refine P_iconst (v := 2) d_Law_law_2843 (by decide) ?_
  refine P_iadd d_Law_law_2844 ?_
  refine P_iald (j := 2) d_Law_law_2845 hs ⟨by decide, by decide⟩ (by decide) ?_
  refine P_aload_n d_Law_law_2846 rfl ?_
  refine P_iload d_Law_law_2847 rfl ?_
  refine P_iconst (v := 3) d_Law_law_2849 (by decide) ?_
  refine P_iadd d_Law_law_2850 ?_
  refine P_iald (j := 3) d_Law_law_2851 hs ⟨by decide, by decide⟩ (by decide) ?_
  refine P_callV (M := M_Law_law) (pc := 2852) (as := [.int (xs 1), .int (xs 2), .int (xs 3)]) (b := 467) d_Law_law_2852 co_MD_middle ok_Model (fa hM 18 rfl) L_Law_267 im_MD_middle se_MD_middle (z_MD_middle hM (xs 1) (xs 2) (xs 3)) rfl ⟨by decide, by decide⟩ ⟨by decide, by decide⟩ (by exact le_b rfl) ?_ _ rfl
  rintro _ _ ⟨rfl, rfl⟩
  show PW _ _ _ _ _ _ (2855, _, [.long (-9223372036854775808), .long (-9223372036854775808)], _)
  refine P_lcmp d_Law_law_2855 ?_
  refine P_if_eq 3371 d_Law_law_2856 (by decide) (fun _ => ?_) (fun h => absurd (by decide) h)
  show PW _ _ _ _ _ _ (3371, [(0, .ref 1000000), (1, .ref 0), (2, .ref 467), (3, .ref 486), (4, .int 0)], [], _)
  refine PW.wide (k' := 500) (n' := 12000) (le_b rfl) (le_b rfl) ?_
  exact PW.drop (lv' := lvE) (fun q hq => by simp only [lvE, List.mem_cons, List.not_mem_nil, or_false] at hq; rcases hq with rfl | rfl | rfl | rfl | rfl <;> simp [lvE]) (hend _)
theorem law_57 {G : pG} {w : pW} {xs : Nat → Int32} (hl : (g_l G).stackTraces = false) (hC : Has cfL w.2) (hM : Has mfL w.2) (hs : w.2 1000000 = .inl (0, 6, .inl xs)) (hx : w.1 < 1000000) (hend : ∀ w' : pW, PW G M_Law_law room_1 (QL G) 500 12000 (3371, lvE, [], w')) : PW G M_Law_law room_1 (QL G) 487 11543 (2861, lvE, [], w) := by
  refine P_aload_n d_Law_law_2861 rfl ?_
  refine P_aload_n d_Law_law_2862 rfl ?_
  refine P_iload d_Law_law_2863 rfl ?_
  refine P_iconst (v := 1) d_Law_law_2865 (by decide) ?_
  refine P_iadd d_Law_law_2866 ?_
  refine P_iald (j := 1) d_Law_law_2867 hs ⟨by decide, by decide⟩ (by decide) ?_
  refine P_callV (M := M_Law_law) (pc := 2868) (as := [.int (xs 1)]) (b := 0) d_Law_law_2868 co_CM_partner ok_CM (fa hC 28 rfl) L_Law_268 im_CM_partner se_CM_partner (z_CM_partner hC (xs 1)) rfl ⟨by decide, by decide⟩ ⟨by decide, by decide⟩ (by exact le_b rfl) ?_ _ rfl
  rintro _ _ ⟨rfl, rfl⟩
  show PW _ _ _ _ _ _ (2871, _, [.int (-1)], _)
  refine P_aload_n d_Law_law_2871 rfl ?_
  refine P_aload_n d_Law_law_2872 rfl ?_
  refine P_iload d_Law_law_2873 rfl ?_
  refine P_iconst (v := 1) d_Law_law_2875 (by decide) ?_
  refine P_iadd d_Law_law_2876 ?_
  refine P_iald (j := 1) d_Law_law_2877 hs ⟨by decide, by decide⟩ (by decide) ?_
  refine P_callV (M := M_Law_law) (pc := 2878) (as := [.int (xs 1)]) (b := 467) d_Law_law_2878 co_MD_partner ok_Model (fa hM 18 rfl) L_Law_271 im_MD_partner se_MD_partner (z_MD_partner hM (xs 1)) rfl ⟨by decide, by decide⟩ ⟨by decide, by decide⟩ (by exact le_b rfl) ?_ _ rfl
  rintro _ _ ⟨rfl, rfl⟩
  show PW _ _ _ _ _ _ (2881, _, [.int (-1), .int (-1)], _)
  refine P_icmp_eq 3371 d_Law_law_2881 (by decide) (fun _ => ?_) (fun h => absurd (by decide) h)
  show PW _ _ _ _ _ _ (3371, [(0, .ref 1000000), (1, .ref 0), (2, .ref 467), (3, .ref 486), (4, .int 0)], [], _)
  refine PW.wide (k' := 500) (n' := 12000) (le_b rfl) (le_b rfl) ?_
  exact PW.drop (lv' := lvE) (fun q hq => by simp only [lvE, List.mem_cons, List.not_mem_nil, or_false] at hq; rcases hq with rfl | rfl | rfl | rfl | rfl <;> simp [lvE]) (hend _)
theorem law_58 {G : pG} {w : pW} {xs : Nat → Int32} (hl : (g_l G).stackTraces = false) (hC : Has cfL w.2) (hM : Has mfL w.2) (hs : w.2 1000000 = .inl (0, 6, .inl xs)) (hx : w.1 < 1000000) (hend : ∀ w' : pW, PW G M_Law_law room_1 (QL G) 500 12000 (3371, lvE, [], w')) : PW G M_Law_law room_1 (QL G) 487 11543 (2886, lvE, [], w) := by
  refine P_aload_n d_Law_law_2886 rfl ?_
  refine P_aload_n d_Law_law_2887 rfl ?_
  refine P_iload d_Law_law_2888 rfl ?_
  refine P_iconst (v := 1) d_Law_law_2890 (by decide) ?_
  refine P_iadd d_Law_law_2891 ?_
  refine P_iald (j := 1) d_Law_law_2892 hs ⟨by decide, by decide⟩ (by decide) ?_
  refine P_aload_n d_Law_law_2893 rfl ?_
  refine P_iload d_Law_law_2894 rfl ?_
  refine P_iconst (v := 2) d_Law_law_2896 (by decide) ?_
  refine P_iadd d_Law_law_2897 ?_
  refine P_iald (j := 2) d_Law_law_2898 hs ⟨by decide, by decide⟩ (by decide) ?_
  refine P_aload_n d_Law_law_2899 rfl ?_
  refine P_iload d_Law_law_2900 rfl ?_
  refine P_iconst (v := 3) d_Law_law_2902 (by decide) ?_
  refine P_iadd d_Law_law_2903 ?_
  refine P_iald (j := 3) d_Law_law_2904 hs ⟨by decide, by decide⟩ (by decide) ?_
  refine P_aload_n d_Law_law_2905 rfl ?_
  refine P_iload d_Law_law_2906 rfl ?_
  refine P_iconst (v := 4) d_Law_law_2908 (by decide) ?_
  refine P_iadd d_Law_law_2909 ?_
  refine P_iald (j := 4) d_Law_law_2910 hs ⟨by decide, by decide⟩ (by decide) ?_
  refine P_callV (M := M_Law_law) (pc := 2911) (as := [.int (xs 1), .int (xs 2), .int (xs 3), .int (xs 4)]) (b := 0) d_Law_law_2911 co_CM_cornerBy ok_CM (fa hC 28 rfl) L_Law_272 im_CM_cornerBy se_CM_cornerBy (z_CM_cornerBy hC (xs 1) (xs 2) (xs 3) (xs 4)) rfl ⟨by decide, by decide⟩ ⟨by decide, by decide⟩ (by exact le_b rfl) ?_ _ rfl
  rintro _ _ ⟨rfl, rfl⟩
  show PW _ _ _ _ _ _ (2914, _, [.long (-9223372036854775808)], _)
  refine P_aload_n d_Law_law_2914 rfl ?_
  refine P_aload_n d_Law_law_2915 rfl ?_
  refine P_iload d_Law_law_2916 rfl ?_
  refine P_iconst (v := 1) d_Law_law_2918 (by decide) ?_
  refine P_iadd d_Law_law_2919 ?_
  refine P_iald (j := 1) d_Law_law_2920 hs ⟨by decide, by decide⟩ (by decide) ?_
  refine P_aload_n d_Law_law_2921 rfl ?_
  refine P_iload d_Law_law_2922 rfl ?_
  refine P_iconst (v := 2) d_Law_law_2924 (by decide) ?_
  refine P_iadd d_Law_law_2925 ?_
  refine P_iald (j := 2) d_Law_law_2926 hs ⟨by decide, by decide⟩ (by decide) ?_
  refine P_aload_n d_Law_law_2927 rfl ?_
  refine P_iload d_Law_law_2928 rfl ?_
  refine P_iconst (v := 3) d_Law_law_2930 (by decide) ?_
  refine P_iadd d_Law_law_2931 ?_
  refine P_iald (j := 3) d_Law_law_2932 hs ⟨by decide, by decide⟩ (by decide) ?_
  refine P_aload_n d_Law_law_2933 rfl ?_
  refine P_iload d_Law_law_2934 rfl ?_
  refine P_iconst (v := 4) d_Law_law_2936 (by decide) ?_
  refine P_iadd d_Law_law_2937 ?_
  refine P_iald (j := 4) d_Law_law_2938 hs ⟨by decide, by decide⟩ (by decide) ?_
  refine P_callV (M := M_Law_law) (pc := 2939) (as := [.int (xs 1), .int (xs 2), .int (xs 3), .int (xs 4)]) (b := 467) d_Law_law_2939 co_MD_cornerBy ok_Model (fa hM 18 rfl) L_Law_275 im_MD_cornerBy se_MD_cornerBy (z_MD_cornerBy hM (xs 1) (xs 2) (xs 3) (xs 4)) rfl ⟨by decide, by decide⟩ ⟨by decide, by decide⟩ (by exact le_b rfl) ?_ _ rfl
  rintro _ _ ⟨rfl, rfl⟩
  show PW _ _ _ _ _ _ (2942, _, [.long (-9223372036854775808), .long (-9223372036854775808)], _)
  refine P_lcmp d_Law_law_2942 ?_
  refine P_if_eq 3371 d_Law_law_2943 (by decide) (fun _ => ?_) (fun h => absurd (by decide) h)
  show PW _ _ _ _ _ _ (3371, [(0, .ref 1000000), (1, .ref 0), (2, .ref 467), (3, .ref 486), (4, .int 0)], [], _)
  refine PW.wide (k' := 500) (n' := 12000) (le_b rfl) (le_b rfl) ?_
  exact PW.drop (lv' := lvE) (fun q hq => by simp only [lvE, List.mem_cons, List.not_mem_nil, or_false] at hq; rcases hq with rfl | rfl | rfl | rfl | rfl <;> simp [lvE]) (hend _)
theorem law_59 {G : pG} {w : pW} {xs : Nat → Int32} (hl : (g_l G).stackTraces = false) (hC : Has cfL w.2) (hM : Has mfL w.2) (hs : w.2 1000000 = .inl (0, 6, .inl xs)) (hx : w.1 < 1000000) (hend : ∀ w' : pW, PW G M_Law_law room_1 (QL G) 500 12000 (3371, lvE, [], w')) : PW G M_Law_law room_1 (QL G) 487 11543 (2948, lvE, [], w) := by
  refine P_aload_n d_Law_law_2948 rfl ?_
  refine P_aload_n d_Law_law_2949 rfl ?_
  refine P_iload d_Law_law_2950 rfl ?_
  refine P_iconst (v := 1) d_Law_law_2952 (by decide) ?_
  refine P_iadd d_Law_law_2953 ?_
  refine P_iald (j := 1) d_Law_law_2954 hs ⟨by decide, by decide⟩ (by decide) ?_
  refine P_aload_n d_Law_law_2955 rfl ?_
  refine P_iload d_Law_law_2956 rfl ?_
  refine P_iconst (v := 2) d_Law_law_2958 (by decide) ?_
  refine P_iadd d_Law_law_2959 ?_
  refine P_iald (j := 2) d_Law_law_2960 hs ⟨by decide, by decide⟩ (by decide) ?_
  refine P_callV (M := M_Law_law) (pc := 2961) (as := [.int (xs 1), .int (xs 2)]) (b := 0) d_Law_law_2961 co_CM_scale ok_CM (fa hC 28 rfl) L_Law_276 im_CM_scale se_CM_scale (z_CM_scale hC (xs 1) (xs 2)) rfl ⟨by decide, by decide⟩ ⟨by decide, by decide⟩ (by exact le_b rfl) ?_ _ rfl
  rintro _ _ ⟨rfl, rfl⟩
  show PW _ _ _ _ _ _ (2964, _, [.long (-9223372036854775808)], _)
  refine P_aload_n d_Law_law_2964 rfl ?_
  refine P_aload_n d_Law_law_2965 rfl ?_
  refine P_iload d_Law_law_2966 rfl ?_
  refine P_iconst (v := 1) d_Law_law_2968 (by decide) ?_
  refine P_iadd d_Law_law_2969 ?_
  refine P_iald (j := 1) d_Law_law_2970 hs ⟨by decide, by decide⟩ (by decide) ?_
  refine P_aload_n d_Law_law_2971 rfl ?_
  refine P_iload d_Law_law_2972 rfl ?_
  refine P_iconst (v := 2) d_Law_law_2974 (by decide) ?_
  refine P_iadd d_Law_law_2975 ?_
  refine P_iald (j := 2) d_Law_law_2976 hs ⟨by decide, by decide⟩ (by decide) ?_
  refine P_callV (M := M_Law_law) (pc := 2977) (as := [.int (xs 1), .int (xs 2)]) (b := 467) d_Law_law_2977 co_MD_scale ok_Model (fa hM 18 rfl) L_Law_279 im_MD_scale se_MD_scale (z_MD_scale hM (xs 1) (xs 2)) rfl ⟨by decide, by decide⟩ ⟨by decide, by decide⟩ (by exact le_b rfl) ?_ _ rfl
  rintro _ _ ⟨rfl, rfl⟩
  show PW _ _ _ _ _ _ (2980, _, [.long (-9223372036854775808), .long (-9223372036854775808)], _)
  refine P_lcmp d_Law_law_2980 ?_
  refine P_if_eq 3371 d_Law_law_2981 (by decide) (fun _ => ?_) (fun h => absurd (by decide) h)
  show PW _ _ _ _ _ _ (3371, [(0, .ref 1000000), (1, .ref 0), (2, .ref 467), (3, .ref 486), (4, .int 0)], [], _)
  refine PW.wide (k' := 500) (n' := 12000) (le_b rfl) (le_b rfl) ?_
  exact PW.drop (lv' := lvE) (fun q hq => by simp only [lvE, List.mem_cons, List.not_mem_nil, or_false] at hq; rcases hq with rfl | rfl | rfl | rfl | rfl <;> simp [lvE]) (hend _)
theorem law_60 {G : pG} {w : pW} {xs : Nat → Int32} (hl : (g_l G).stackTraces = false) (hC : Has cfL w.2) (hM : Has mfL w.2) (hs : w.2 1000000 = .inl (0, 6, .inl xs)) (hx : w.1 < 1000000) (hend : ∀ w' : pW, PW G M_Law_law room_1 (QL G) 500 12000 (3371, lvE, [], w')) : PW G M_Law_law room_1 (QL G) 487 11543 (2986, lvE, [], w) := by
  refine P_aload_n d_Law_law_2986 rfl ?_
  refine P_aload_n d_Law_law_2987 rfl ?_
  refine P_iload d_Law_law_2988 rfl ?_
  refine P_iconst (v := 1) d_Law_law_2990 (by decide) ?_
  refine P_iadd d_Law_law_2991 ?_
  refine P_iald (j := 1) d_Law_law_2992 hs ⟨by decide, by decide⟩ (by decide) ?_
  refine P_aload_n d_Law_law_2993 rfl ?_
  refine P_iload d_Law_law_2994 rfl ?_
  refine P_iconst (v := 2) d_Law_law_2996 (by decide) ?_
  refine P_iadd d_Law_law_2997 ?_
  refine P_iald (j := 2) d_Law_law_2998 hs ⟨by decide, by decide⟩ (by decide) ?_
  refine P_aload_n d_Law_law_2999 rfl ?_
  refine P_iload d_Law_law_3000 rfl ?_
  refine P_iconst (v := 3) d_Law_law_3002 (by decide) ?_
  refine P_iadd d_Law_law_3003 ?_
  refine P_iald (j := 3) d_Law_law_3004 hs ⟨by decide, by decide⟩ (by decide) ?_
  refine P_callV (M := M_Law_law) (pc := 3005) (as := [.int (xs 1), .int (xs 2), .int (xs 3)]) (b := 0) d_Law_law_3005 co_CM_likeness ok_CM (fa hC 28 rfl) L_Law_280 im_CM_likeness se_CM_likeness (z_CM_likeness hC (xs 1) (xs 2) (xs 3)) rfl ⟨by decide, by decide⟩ ⟨by decide, by decide⟩ (by exact le_b rfl) ?_ _ rfl
  rintro _ _ ⟨rfl, rfl⟩
  show PW _ _ _ _ _ _ (3008, _, [.int (-1)], _)
  refine P_aload_n d_Law_law_3008 rfl ?_
  refine P_aload_n d_Law_law_3009 rfl ?_
  refine P_iload d_Law_law_3010 rfl ?_
  refine P_iconst (v := 1) d_Law_law_3012 (by decide) ?_
  refine P_iadd d_Law_law_3013 ?_
  refine P_iald (j := 1) d_Law_law_3014 hs ⟨by decide, by decide⟩ (by decide) ?_
  refine P_aload_n d_Law_law_3015 rfl ?_
  refine P_iload d_Law_law_3016 rfl ?_
  refine P_iconst (v := 2) d_Law_law_3018 (by decide) ?_
  refine P_iadd d_Law_law_3019 ?_
  refine P_iald (j := 2) d_Law_law_3020 hs ⟨by decide, by decide⟩ (by decide) ?_
  refine P_aload_n d_Law_law_3021 rfl ?_
  refine P_iload d_Law_law_3022 rfl ?_
  refine P_iconst (v := 3) d_Law_law_3024 (by decide) ?_
  refine P_iadd d_Law_law_3025 ?_
  refine P_iald (j := 3) d_Law_law_3026 hs ⟨by decide, by decide⟩ (by decide) ?_
  refine P_callV (M := M_Law_law) (pc := 3027) (as := [.int (xs 1), .int (xs 2), .int (xs 3)]) (b := 467) d_Law_law_3027 co_MD_likeness ok_Model (fa hM 18 rfl) L_Law_283 im_MD_likeness se_MD_likeness (z_MD_likeness hM (xs 1) (xs 2) (xs 3)) rfl ⟨by decide, by decide⟩ ⟨by decide, by decide⟩ (by exact le_b rfl) ?_ _ rfl
  rintro _ _ ⟨rfl, rfl⟩
  show PW _ _ _ _ _ _ (3030, _, [.int (-1), .int (-1)], _)
  refine P_icmp_eq 3371 d_Law_law_3030 (by decide) (fun _ => ?_) (fun h => absurd (by decide) h)
  show PW _ _ _ _ _ _ (3371, [(0, .ref 1000000), (1, .ref 0), (2, .ref 467), (3, .ref 486), (4, .int 0)], [], _)
  refine PW.wide (k' := 500) (n' := 12000) (le_b rfl) (le_b rfl) ?_
  exact PW.drop (lv' := lvE) (fun q hq => by simp only [lvE, List.mem_cons, List.not_mem_nil, or_false] at hq; rcases hq with rfl | rfl | rfl | rfl | rfl <;> simp [lvE]) (hend _)
theorem law_61 {G : pG} {w : pW} {xs : Nat → Int32} (hl : (g_l G).stackTraces = false) (hC : Has cfL w.2) (hM : Has mfL w.2) (hs : w.2 1000000 = .inl (0, 6, .inl xs)) (hx : w.1 < 1000000) (hend : ∀ w' : pW, PW G M_Law_law room_1 (QL G) 500 12000 (3371, lvE, [], w')) : PW G M_Law_law room_1 (QL G) 487 11543 (3035, lvE, [], w) := by
  refine P_aload_n d_Law_law_3035 rfl ?_
  refine P_aload_n d_Law_law_3036 rfl ?_
  refine P_iload d_Law_law_3037 rfl ?_
  refine P_iconst (v := 1) d_Law_law_3039 (by decide) ?_
  refine P_iadd d_Law_law_3040 ?_
  refine P_iald (j := 1) d_Law_law_3041 hs ⟨by decide, by decide⟩ (by decide) ?_
  refine P_aload_n d_Law_law_3042 rfl ?_
  refine P_iload d_Law_law_3043 rfl ?_
  refine P_iconst (v := 2) d_Law_law_3045 (by decide) ?_
  refine P_iadd d_Law_law_3046 ?_
  refine P_iald (j := 2) d_Law_law_3047 hs ⟨by decide, by decide⟩ (by decide) ?_
  refine P_aload_n d_Law_law_3048 rfl ?_
  refine P_iload d_Law_law_3049 rfl ?_
  refine P_iconst (v := 3) d_Law_law_3051 (by decide) ?_
  refine P_iadd d_Law_law_3052 ?_
  refine P_iald (j := 3) d_Law_law_3053 hs ⟨by decide, by decide⟩ (by decide) ?_
  refine P_callV (M := M_Law_law) (pc := 3054) (as := [.int (xs 1), .int (xs 2), .int (xs 3)]) (b := 0) d_Law_law_3054 co_CM_hits ok_CM (fa hC 28 rfl) L_Law_284 im_CM_hits se_CM_hits (z_CM_hits hC (xs 1) (xs 2) (xs 3)) rfl ⟨by decide, by decide⟩ ⟨by decide, by decide⟩ (by exact le_b rfl) ?_ _ rfl
  rintro _ _ ⟨rfl, rfl⟩
  show PW _ _ _ _ _ _ (3057, _, [.int (-1)], _)
  refine P_aload_n d_Law_law_3057 rfl ?_
  refine P_aload_n d_Law_law_3058 rfl ?_
  refine P_iload d_Law_law_3059 rfl ?_
  refine P_iconst (v := 1) d_Law_law_3061 (by decide) ?_
  refine P_iadd d_Law_law_3062 ?_
  refine P_iald (j := 1) d_Law_law_3063 hs ⟨by decide, by decide⟩ (by decide) ?_
  refine P_aload_n d_Law_law_3064 rfl ?_
  refine P_iload d_Law_law_3065 rfl ?_
  refine P_iconst (v := 2) d_Law_law_3067 (by decide) ?_
  refine P_iadd d_Law_law_3068 ?_
  refine P_iald (j := 2) d_Law_law_3069 hs ⟨by decide, by decide⟩ (by decide) ?_
  refine P_aload_n d_Law_law_3070 rfl ?_
  refine P_iload d_Law_law_3071 rfl ?_
  refine P_iconst (v := 3) d_Law_law_3073 (by decide) ?_
  refine P_iadd d_Law_law_3074 ?_
  refine P_iald (j := 3) d_Law_law_3075 hs ⟨by decide, by decide⟩ (by decide) ?_
  refine P_callV (M := M_Law_law) (pc := 3076) (as := [.int (xs 1), .int (xs 2), .int (xs 3)]) (b := 467) d_Law_law_3076 co_MD_hits ok_Model (fa hM 18 rfl) L_Law_287 im_MD_hits se_MD_hits (z_MD_hits hM (xs 1) (xs 2) (xs 3)) rfl ⟨by decide, by decide⟩ ⟨by decide, by decide⟩ (by exact le_b rfl) ?_ _ rfl
  rintro _ _ ⟨rfl, rfl⟩
  show PW _ _ _ _ _ _ (3079, _, [.int (-1), .int (-1)], _)
  refine P_icmp_eq 3371 d_Law_law_3079 (by decide) (fun _ => ?_) (fun h => absurd (by decide) h)
  show PW _ _ _ _ _ _ (3371, [(0, .ref 1000000), (1, .ref 0), (2, .ref 467), (3, .ref 486), (4, .int 0)], [], _)
  refine PW.wide (k' := 500) (n' := 12000) (le_b rfl) (le_b rfl) ?_
  exact PW.drop (lv' := lvE) (fun q hq => by simp only [lvE, List.mem_cons, List.not_mem_nil, or_false] at hq; rcases hq with rfl | rfl | rfl | rfl | rfl <;> simp [lvE]) (hend _)
theorem law_62 {G : pG} {w : pW} {xs : Nat → Int32} (hl : (g_l G).stackTraces = false) (hC : Has cfL w.2) (hM : Has mfL w.2) (hs : w.2 1000000 = .inl (0, 6, .inl xs)) (hx : w.1 < 1000000) (hend : ∀ w' : pW, PW G M_Law_law room_1 (QL G) 500 12000 (3371, lvE, [], w')) : PW G M_Law_law room_1 (QL G) 487 11543 (3084, lvE, [], w) := by
  refine P_aload_n d_Law_law_3084 rfl ?_
  refine P_aload_n d_Law_law_3085 rfl ?_
  refine P_iload d_Law_law_3086 rfl ?_
  refine P_iconst (v := 1) d_Law_law_3088 (by decide) ?_
  refine P_iadd d_Law_law_3089 ?_
  refine P_iald (j := 1) d_Law_law_3090 hs ⟨by decide, by decide⟩ (by decide) ?_
  refine P_aload_n d_Law_law_3091 rfl ?_
  refine P_iload d_Law_law_3092 rfl ?_
  refine P_iconst (v := 2) d_Law_law_3094 (by decide) ?_
  refine P_iadd d_Law_law_3095 ?_
  refine P_iald (j := 2) d_Law_law_3096 hs ⟨by decide, by decide⟩ (by decide) ?_
  refine P_callV (M := M_Law_law) (pc := 3097) (as := [.int (xs 1), .int (xs 2)]) (b := 0) d_Law_law_3097 co_CM_goesTo ok_CM (fa hC 28 rfl) L_Law_288 im_CM_goesTo se_CM_goesTo (z_CM_goesTo hC (xs 1) (xs 2)) rfl ⟨by decide, by decide⟩ ⟨by decide, by decide⟩ (by exact le_b rfl) ?_ _ rfl
  rintro _ _ ⟨rfl, rfl⟩
  show PW _ _ _ _ _ _ (3100, _, [.int (-1)], _)
  refine P_aload_n d_Law_law_3100 rfl ?_
  refine P_aload_n d_Law_law_3101 rfl ?_
  refine P_iload d_Law_law_3102 rfl ?_
  refine P_iconst (v := 1) d_Law_law_3104 (by decide) ?_
  refine P_iadd d_Law_law_3105 ?_
  refine P_iald (j := 1) d_Law_law_3106 hs ⟨by decide, by decide⟩ (by decide) ?_
  refine P_aload_n d_Law_law_3107 rfl ?_
  refine P_iload d_Law_law_3108 rfl ?_
  refine P_iconst (v := 2) d_Law_law_3110 (by decide) ?_
  refine P_iadd d_Law_law_3111 ?_
  refine P_iald (j := 2) d_Law_law_3112 hs ⟨by decide, by decide⟩ (by decide) ?_
  refine P_callV (M := M_Law_law) (pc := 3113) (as := [.int (xs 1), .int (xs 2)]) (b := 467) d_Law_law_3113 co_MD_goesTo ok_Model (fa hM 18 rfl) L_Law_291 im_MD_goesTo se_MD_goesTo (z_MD_goesTo hM (xs 1) (xs 2)) rfl ⟨by decide, by decide⟩ ⟨by decide, by decide⟩ (by exact le_b rfl) ?_ _ rfl
  rintro _ _ ⟨rfl, rfl⟩
  show PW _ _ _ _ _ _ (3116, _, [.int (-1), .int (-1)], _)
  refine P_icmp_eq 3371 d_Law_law_3116 (by decide) (fun _ => ?_) (fun h => absurd (by decide) h)
  show PW _ _ _ _ _ _ (3371, [(0, .ref 1000000), (1, .ref 0), (2, .ref 467), (3, .ref 486), (4, .int 0)], [], _)
  refine PW.wide (k' := 500) (n' := 12000) (le_b rfl) (le_b rfl) ?_
  exact PW.drop (lv' := lvE) (fun q hq => by simp only [lvE, List.mem_cons, List.not_mem_nil, or_false] at hq; rcases hq with rfl | rfl | rfl | rfl | rfl <;> simp [lvE]) (hend _)
theorem law_63 {G : pG} {w : pW} {xs : Nat → Int32} (hl : (g_l G).stackTraces = false) (hC : Has cfL w.2) (hM : Has mfL w.2) (hs : w.2 1000000 = .inl (0, 6, .inl xs)) (hx : w.1 < 1000000) (hend : ∀ w' : pW, PW G M_Law_law room_1 (QL G) 500 12000 (3371, lvE, [], w')) : PW G M_Law_law room_1 (QL G) 487 11543 (3121, lvE, [], w) := by
  refine P_aload_n d_Law_law_3121 rfl ?_
  refine P_aload_n d_Law_law_3122 rfl ?_
  refine P_iload d_Law_law_3123 rfl ?_
  refine P_iconst (v := 1) d_Law_law_3125 (by decide) ?_
  refine P_iadd d_Law_law_3126 ?_
  refine P_iald (j := 1) d_Law_law_3127 hs ⟨by decide, by decide⟩ (by decide) ?_
  refine P_callV (M := M_Law_law) (pc := 3128) (as := [.int (xs 1)]) (b := 0) d_Law_law_3128 co_CM_farthest ok_CM (fa hC 28 rfl) L_Law_292 im_CM_farthest se_CM_farthest (z_CM_farthest hC (xs 1)) rfl ⟨by decide, by decide⟩ ⟨by decide, by decide⟩ (by exact le_b rfl) ?_ _ rfl
  rintro _ _ ⟨rfl, rfl⟩
  show PW _ _ _ _ _ _ (3131, _, [.long (-9223372036854775808)], _)
  refine P_aload_n d_Law_law_3131 rfl ?_
  refine P_aload_n d_Law_law_3132 rfl ?_
  refine P_iload d_Law_law_3133 rfl ?_
  refine P_iconst (v := 1) d_Law_law_3135 (by decide) ?_
  refine P_iadd d_Law_law_3136 ?_
  refine P_iald (j := 1) d_Law_law_3137 hs ⟨by decide, by decide⟩ (by decide) ?_
  refine P_callV (M := M_Law_law) (pc := 3138) (as := [.int (xs 1)]) (b := 467) d_Law_law_3138 co_MD_farthest ok_Model (fa hM 18 rfl) L_Law_296 im_MD_farthest se_MD_farthest (z_MD_farthest hM (xs 1)) rfl ⟨by decide, by decide⟩ ⟨by decide, by decide⟩ (by exact le_b rfl) ?_ _ rfl
  rintro _ _ ⟨rfl, rfl⟩
  show PW _ _ _ _ _ _ (3141, _, [.long (-9223372036854775808), .long (-9223372036854775808)], _)
  refine P_lcmp d_Law_law_3141 ?_
  refine P_if_eq 3371 d_Law_law_3142 (by decide) (fun _ => ?_) (fun h => absurd (by decide) h)
  show PW _ _ _ _ _ _ (3371, [(0, .ref 1000000), (1, .ref 0), (2, .ref 467), (3, .ref 486), (4, .int 0)], [], _)
  refine PW.wide (k' := 500) (n' := 12000) (le_b rfl) (le_b rfl) ?_
  exact PW.drop (lv' := lvE) (fun q hq => by simp only [lvE, List.mem_cons, List.not_mem_nil, or_false] at hq; rcases hq with rfl | rfl | rfl | rfl | rfl <;> simp [lvE]) (hend _)
theorem law_64 {G : pG} {w : pW} {xs : Nat → Int32} (hl : (g_l G).stackTraces = false) (hC : Has cfL w.2) (hM : Has mfL w.2) (hs : w.2 1000000 = .inl (0, 6, .inl xs)) (hx : w.1 < 1000000) (hend : ∀ w' : pW, PW G M_Law_law room_1 (QL G) 500 12000 (3371, lvE, [], w')) : PW G M_Law_law room_1 (QL G) 487 11543 (3147, lvE, [], w) := by
  refine P_aload_n d_Law_law_3147 rfl ?_
  refine P_aload_n d_Law_law_3148 rfl ?_
  refine P_iload d_Law_law_3149 rfl ?_
  refine P_iconst (v := 1) d_Law_law_3151 (by decide) ?_
  refine P_iadd d_Law_law_3152 ?_
  refine P_iald (j := 1) d_Law_law_3153 hs ⟨by decide, by decide⟩ (by decide) ?_
  refine P_callV (M := M_Law_law) (pc := 3154) (as := [.int (xs 1)]) (b := 0) d_Law_law_3154 co_CM_biggest ok_CM (fa hC 28 rfl) L_Law_297 im_CM_biggest se_CM_biggest (z_CM_biggest hC (xs 1)) rfl ⟨by decide, by decide⟩ ⟨by decide, by decide⟩ (by exact le_b rfl) ?_ _ rfl
  rintro _ _ ⟨rfl, rfl⟩
  show PW _ _ _ _ _ _ (3157, _, [.int (ff 0 1 (-2) (-1) (xs 1))], _)
  refine P_aload_n d_Law_law_3157 rfl ?_
  refine P_aload_n d_Law_law_3158 rfl ?_
  refine P_iload d_Law_law_3159 rfl ?_
  refine P_iconst (v := 1) d_Law_law_3161 (by decide) ?_
  refine P_iadd d_Law_law_3162 ?_
  refine P_iald (j := 1) d_Law_law_3163 hs ⟨by decide, by decide⟩ (by decide) ?_
  refine P_callV (M := M_Law_law) (pc := 3164) (as := [.int (xs 1)]) (b := 467) d_Law_law_3164 co_MD_biggest ok_Model (fa hM 18 rfl) L_Law_300 im_MD_biggest se_MD_biggest (z_MD_biggest hM (xs 1)) rfl ⟨by decide, by decide⟩ ⟨by decide, by decide⟩ (by exact le_b rfl) ?_ _ rfl
  rintro _ _ ⟨rfl, rfl⟩
  show PW _ _ _ _ _ _ (3167, _, [.int (ff 0 1 (-2) (-1) (xs 1)), .int (ff 0 1 (-2) (-1) (xs 1))], _)
  refine P_icmp_eq 3371 d_Law_law_3167 (by decide) (fun _ => ?_) (fun h => absurd rfl h)
  show PW _ _ _ _ _ _ (3371, [(0, .ref 1000000), (1, .ref 0), (2, .ref 467), (3, .ref 486), (4, .int 0)], [], _)
  refine PW.wide (k' := 500) (n' := 12000) (le_b rfl) (le_b rfl) ?_
  exact PW.drop (lv' := lvE) (fun q hq => by simp only [lvE, List.mem_cons, List.not_mem_nil, or_false] at hq; rcases hq with rfl | rfl | rfl | rfl | rfl <;> simp [lvE]) (hend _)
theorem law_65 {G : pG} {w : pW} {xs : Nat → Int32} (hl : (g_l G).stackTraces = false) (hC : Has cfL w.2) (hM : Has mfL w.2) (hs : w.2 1000000 = .inl (0, 6, .inl xs)) (hx : w.1 < 1000000) (hend : ∀ w' : pW, PW G M_Law_law room_1 (QL G) 500 12000 (3371, lvE, [], w')) : PW G M_Law_law room_1 (QL G) 487 11543 (3172, lvE, [], w) := by
  refine P_aload_n d_Law_law_3172 rfl ?_
  refine P_aload_n d_Law_law_3173 rfl ?_
  refine P_iload d_Law_law_3174 rfl ?_
  refine P_iconst (v := 1) d_Law_law_3176 (by decide) ?_
  refine P_iadd d_Law_law_3177 ?_
  refine P_iald (j := 1) d_Law_law_3178 hs ⟨by decide, by decide⟩ (by decide) ?_
  refine P_callV (M := M_Law_law) (pc := 3179) (as := [.int (xs 1)]) (b := 0) d_Law_law_3179 co_CM_kinds ok_CM (fa hC 28 rfl) L_Law_301 im_CM_kinds se_CM_kinds (z_CM_kinds hC (xs 1)) rfl ⟨by decide, by decide⟩ ⟨by decide, by decide⟩ (by exact le_b rfl) ?_ _ rfl
  rintro _ _ ⟨rfl, rfl⟩
  show PW _ _ _ _ _ _ (3182, _, [.int (ff 0 5 0 (-1) (xs 1))], _)
  refine P_aload_n d_Law_law_3182 rfl ?_
  refine P_aload_n d_Law_law_3183 rfl ?_
  refine P_iload d_Law_law_3184 rfl ?_
  refine P_iconst (v := 1) d_Law_law_3186 (by decide) ?_
  refine P_iadd d_Law_law_3187 ?_
  refine P_iald (j := 1) d_Law_law_3188 hs ⟨by decide, by decide⟩ (by decide) ?_
  refine P_callV (M := M_Law_law) (pc := 3189) (as := [.int (xs 1)]) (b := 467) d_Law_law_3189 co_MD_kinds ok_Model (fa hM 18 rfl) L_Law_304 im_MD_kinds se_MD_kinds (z_MD_kinds hM (xs 1)) rfl ⟨by decide, by decide⟩ ⟨by decide, by decide⟩ (by exact le_b rfl) ?_ _ rfl
  rintro _ _ ⟨rfl, rfl⟩
  show PW _ _ _ _ _ _ (3192, _, [.int (ff 0 5 0 (-1) (xs 1)), .int (ff 0 5 0 (-1) (xs 1))], _)
  refine P_icmp_eq 3371 d_Law_law_3192 (by decide) (fun _ => ?_) (fun h => absurd rfl h)
  show PW _ _ _ _ _ _ (3371, [(0, .ref 1000000), (1, .ref 0), (2, .ref 467), (3, .ref 486), (4, .int 0)], [], _)
  refine PW.wide (k' := 500) (n' := 12000) (le_b rfl) (le_b rfl) ?_
  exact PW.drop (lv' := lvE) (fun q hq => by simp only [lvE, List.mem_cons, List.not_mem_nil, or_false] at hq; rcases hq with rfl | rfl | rfl | rfl | rfl <;> simp [lvE]) (hend _)
theorem law_66 {G : pG} {w : pW} {xs : Nat → Int32} (hl : (g_l G).stackTraces = false) (hC : Has cfL w.2) (hM : Has mfL w.2) (hs : w.2 1000000 = .inl (0, 6, .inl xs)) (hx : w.1 < 1000000) (hend : ∀ w' : pW, PW G M_Law_law room_1 (QL G) 500 12000 (3371, lvE, [], w')) : PW G M_Law_law room_1 (QL G) 487 11543 (3197, lvE, [], w) := by
  refine P_aload_n d_Law_law_3197 rfl ?_
  refine P_aload_n d_Law_law_3198 rfl ?_
  refine P_iload d_Law_law_3199 rfl ?_
  refine P_iconst (v := 1) d_Law_law_3201 (by decide) ?_
  refine P_iadd d_Law_law_3202 ?_
  refine P_iald (j := 1) d_Law_law_3203 hs ⟨by decide, by decide⟩ (by decide) ?_
  refine P_callV (M := M_Law_law) (pc := 3204) (as := [.int (xs 1)]) (b := 0) d_Law_law_3204 co_CM_pairs ok_CM (fa hC 28 rfl) L_Law_305 im_CM_pairs se_CM_pairs (z_CM_pairs hC (xs 1)) rfl ⟨by decide, by decide⟩ ⟨by decide, by decide⟩ (by exact le_b rfl) ?_ _ rfl
  rintro _ _ ⟨rfl, rfl⟩
  show PW _ _ _ _ _ _ (3207, _, [.int (ff 0 2 0 (-1) (xs 1))], _)
  refine P_aload_n d_Law_law_3207 rfl ?_
  refine P_aload_n d_Law_law_3208 rfl ?_
  refine P_iload d_Law_law_3209 rfl ?_
  refine P_iconst (v := 1) d_Law_law_3211 (by decide) ?_
  refine P_iadd d_Law_law_3212 ?_
  refine P_iald (j := 1) d_Law_law_3213 hs ⟨by decide, by decide⟩ (by decide) ?_
  refine P_callV (M := M_Law_law) (pc := 3214) (as := [.int (xs 1)]) (b := 467) d_Law_law_3214 co_MD_pairs ok_Model (fa hM 18 rfl) L_Law_308 im_MD_pairs se_MD_pairs (z_MD_pairs hM (xs 1)) rfl ⟨by decide, by decide⟩ ⟨by decide, by decide⟩ (by exact le_b rfl) ?_ _ rfl
  rintro _ _ ⟨rfl, rfl⟩
  show PW _ _ _ _ _ _ (3217, _, [.int (ff 0 2 0 (-1) (xs 1)), .int (ff 0 2 0 (-1) (xs 1))], _)
  refine P_icmp_eq 3371 d_Law_law_3217 (by decide) (fun _ => ?_) (fun h => absurd rfl h)
  show PW _ _ _ _ _ _ (3371, [(0, .ref 1000000), (1, .ref 0), (2, .ref 467), (3, .ref 486), (4, .int 0)], [], _)
  refine PW.wide (k' := 500) (n' := 12000) (le_b rfl) (le_b rfl) ?_
  exact PW.drop (lv' := lvE) (fun q hq => by simp only [lvE, List.mem_cons, List.not_mem_nil, or_false] at hq; rcases hq with rfl | rfl | rfl | rfl | rfl <;> simp [lvE]) (hend _)
theorem law_67 {G : pG} {w : pW} {xs : Nat → Int32} (hl : (g_l G).stackTraces = false) (hC : Has cfL w.2) (hM : Has mfL w.2) (hs : w.2 1000000 = .inl (0, 6, .inl xs)) (hx : w.1 < 1000000) (hend : ∀ w' : pW, PW G M_Law_law room_1 (QL G) 500 12000 (3371, lvE, [], w')) : PW G M_Law_law room_1 (QL G) 487 11543 (3222, lvE, [], w) := by
  refine P_aload_n d_Law_law_3222 rfl ?_
  refine P_aload_n d_Law_law_3223 rfl ?_
  refine P_iload d_Law_law_3224 rfl ?_
  refine P_iconst (v := 1) d_Law_law_3226 (by decide) ?_
  refine P_iadd d_Law_law_3227 ?_
  refine P_iald (j := 1) d_Law_law_3228 hs ⟨by decide, by decide⟩ (by decide) ?_
  refine P_aload_n d_Law_law_3229 rfl ?_
  refine P_iload d_Law_law_3230 rfl ?_
  refine P_iconst (v := 2) d_Law_law_3232 (by decide) ?_
  refine P_iadd d_Law_law_3233 ?_
  refine P_iald (j := 2) d_Law_law_3234 hs ⟨by decide, by decide⟩ (by decide) ?_
  refine P_callV (M := M_Law_law) (pc := 3235) (as := [.int (xs 1), .int (xs 2)]) (b := 0) d_Law_law_3235 co_CM_spell ok_CM (fa hC 28 rfl) L_Law_309 im_CM_spell se_CM_spell (z_CM_spell hC (xs 1) (xs 2)) rfl ⟨by decide, by decide⟩ ⟨by decide, by decide⟩ (by exact le_b rfl) ?_ _ rfl
  rintro _ _ ⟨rfl, rfl⟩
  show PW _ _ _ _ _ _ (3238, _, [.int (-1)], _)
  refine P_aload_n d_Law_law_3238 rfl ?_
  refine P_aload_n d_Law_law_3239 rfl ?_
  refine P_iload d_Law_law_3240 rfl ?_
  refine P_iconst (v := 1) d_Law_law_3242 (by decide) ?_
  refine P_iadd d_Law_law_3243 ?_
  refine P_iald (j := 1) d_Law_law_3244 hs ⟨by decide, by decide⟩ (by decide) ?_
  refine P_aload_n d_Law_law_3245 rfl ?_
  refine P_iload d_Law_law_3246 rfl ?_
  refine P_iconst (v := 2) d_Law_law_3248 (by decide) ?_
  refine P_iadd d_Law_law_3249 ?_
  refine P_iald (j := 2) d_Law_law_3250 hs ⟨by decide, by decide⟩ (by decide) ?_
  refine P_callV (M := M_Law_law) (pc := 3251) (as := [.int (xs 1), .int (xs 2)]) (b := 467) d_Law_law_3251 co_MD_spell ok_Model (fa hM 18 rfl) L_Law_312 im_MD_spell se_MD_spell (z_MD_spell hM (xs 1) (xs 2)) rfl ⟨by decide, by decide⟩ ⟨by decide, by decide⟩ (by exact le_b rfl) ?_ _ rfl
  rintro _ _ ⟨rfl, rfl⟩
  show PW _ _ _ _ _ _ (3254, _, [.int (-1), .int (-1)], _)
  refine P_icmp_eq 3371 d_Law_law_3254 (by decide) (fun _ => ?_) (fun h => absurd (by decide) h)
  show PW _ _ _ _ _ _ (3371, [(0, .ref 1000000), (1, .ref 0), (2, .ref 467), (3, .ref 486), (4, .int 0)], [], _)
  refine PW.wide (k' := 500) (n' := 12000) (le_b rfl) (le_b rfl) ?_
  exact PW.drop (lv' := lvE) (fun q hq => by simp only [lvE, List.mem_cons, List.not_mem_nil, or_false] at hq; rcases hq with rfl | rfl | rfl | rfl | rfl <;> simp [lvE]) (hend _)
theorem law_68 {G : pG} {w : pW} {xs : Nat → Int32} (hl : (g_l G).stackTraces = false) (hC : Has cfL w.2) (hM : Has mfL w.2) (hs : w.2 1000000 = .inl (0, 6, .inl xs)) (hx : w.1 < 1000000) (hend : ∀ w' : pW, PW G M_Law_law room_1 (QL G) 500 12000 (3371, lvE, [], w')) : PW G M_Law_law room_1 (QL G) 487 11543 (3259, lvE, [], w) := by
  refine P_aload_n d_Law_law_3259 rfl ?_
  refine P_aload_n d_Law_law_3260 rfl ?_
  refine P_iload d_Law_law_3261 rfl ?_
  refine P_iconst (v := 1) d_Law_law_3263 (by decide) ?_
  refine P_iadd d_Law_law_3264 ?_
  refine P_iald (j := 1) d_Law_law_3265 hs ⟨by decide, by decide⟩ (by decide) ?_
  refine P_callV (M := M_Law_law) (pc := 3266) (as := [.int (xs 1)]) (b := 0) d_Law_law_3266 co_CM_kept ok_CM (fa hC 28 rfl) L_Law_313 im_CM_kept se_CM_kept (z_CM_kept hC (xs 1)) rfl ⟨by decide, by decide⟩ ⟨by decide, by decide⟩ (by exact le_b rfl) ?_ _ rfl
  rintro _ _ ⟨rfl, rfl⟩
  show PW _ _ _ _ _ _ (3269, _, [.int (-1)], _)
  refine P_aload_n d_Law_law_3269 rfl ?_
  refine P_aload_n d_Law_law_3270 rfl ?_
  refine P_iload d_Law_law_3271 rfl ?_
  refine P_iconst (v := 1) d_Law_law_3273 (by decide) ?_
  refine P_iadd d_Law_law_3274 ?_
  refine P_iald (j := 1) d_Law_law_3275 hs ⟨by decide, by decide⟩ (by decide) ?_
  refine P_callV (M := M_Law_law) (pc := 3276) (as := [.int (xs 1)]) (b := 467) d_Law_law_3276 co_MD_kept ok_Model (fa hM 18 rfl) L_Law_316 im_MD_kept se_MD_kept (z_MD_kept hM (xs 1)) rfl ⟨by decide, by decide⟩ ⟨by decide, by decide⟩ (by exact le_b rfl) ?_ _ rfl
  rintro _ _ ⟨rfl, rfl⟩
  show PW _ _ _ _ _ _ (3279, _, [.int (-1), .int (-1)], _)
  refine P_icmp_eq 3371 d_Law_law_3279 (by decide) (fun _ => ?_) (fun h => absurd (by decide) h)
  show PW _ _ _ _ _ _ (3371, [(0, .ref 1000000), (1, .ref 0), (2, .ref 467), (3, .ref 486), (4, .int 0)], [], _)
  refine PW.wide (k' := 500) (n' := 12000) (le_b rfl) (le_b rfl) ?_
  exact PW.drop (lv' := lvE) (fun q hq => by simp only [lvE, List.mem_cons, List.not_mem_nil, or_false] at hq; rcases hq with rfl | rfl | rfl | rfl | rfl <;> simp [lvE]) (hend _)
theorem law_69 {G : pG} {w : pW} {xs : Nat → Int32} (hl : (g_l G).stackTraces = false) (hC : Has cfL w.2) (hM : Has mfL w.2) (hs : w.2 1000000 = .inl (0, 6, .inl xs)) (hx : w.1 < 1000000) (hend : ∀ w' : pW, PW G M_Law_law room_1 (QL G) 500 12000 (3371, lvE, [], w')) : PW G M_Law_law room_1 (QL G) 487 11543 (3284, lvE, [], w) := by
  refine P_aload_n d_Law_law_3284 rfl ?_
  refine P_aload_n d_Law_law_3285 rfl ?_
  refine P_iload d_Law_law_3286 rfl ?_
  refine P_iconst (v := 1) d_Law_law_3288 (by decide) ?_
  refine P_iadd d_Law_law_3289 ?_
  refine P_iald (j := 1) d_Law_law_3290 hs ⟨by decide, by decide⟩ (by decide) ?_
  refine P_aload_n d_Law_law_3291 rfl ?_
  refine P_iload d_Law_law_3292 rfl ?_
  refine P_iconst (v := 2) d_Law_law_3294 (by decide) ?_
  refine P_iadd d_Law_law_3295 ?_
  refine P_iald (j := 2) d_Law_law_3296 hs ⟨by decide, by decide⟩ (by decide) ?_
  refine P_callV (M := M_Law_law) (pc := 3297) (as := [.int (xs 1), .int (xs 2)]) (b := 0) d_Law_law_3297 co_CM_find ok_CM (fa hC 28 rfl) L_Law_317 im_CM_find se_CM_find (z_CM_find hC (xs 1) (xs 2)) rfl ⟨by decide, by decide⟩ ⟨by decide, by decide⟩ (by exact le_b rfl) ?_ _ rfl
  rintro _ _ ⟨rfl, rfl⟩
  show PW _ _ _ _ _ _ (3300, _, [.int (-1)], _)
  refine P_aload_n d_Law_law_3300 rfl ?_
  refine P_aload_n d_Law_law_3301 rfl ?_
  refine P_iload d_Law_law_3302 rfl ?_
  refine P_iconst (v := 1) d_Law_law_3304 (by decide) ?_
  refine P_iadd d_Law_law_3305 ?_
  refine P_iald (j := 1) d_Law_law_3306 hs ⟨by decide, by decide⟩ (by decide) ?_
  refine P_aload_n d_Law_law_3307 rfl ?_
  refine P_iload d_Law_law_3308 rfl ?_
  refine P_iconst (v := 2) d_Law_law_3310 (by decide) ?_
  refine P_iadd d_Law_law_3311 ?_
  refine P_iald (j := 2) d_Law_law_3312 hs ⟨by decide, by decide⟩ (by decide) ?_
  refine P_callV (M := M_Law_law) (pc := 3313) (as := [.int (xs 1), .int (xs 2)]) (b := 467) d_Law_law_3313 co_MD_find ok_Model (fa hM 18 rfl) L_Law_320 im_MD_find se_MD_find (z_MD_find hM (xs 1) (xs 2)) rfl ⟨by decide, by decide⟩ ⟨by decide, by decide⟩ (by exact le_b rfl) ?_ _ rfl
  rintro _ _ ⟨rfl, rfl⟩
  show PW _ _ _ _ _ _ (3316, _, [.int (-1), .int (-1)], _)
  refine P_icmp_eq 3371 d_Law_law_3316 (by decide) (fun _ => ?_) (fun h => absurd (by decide) h)
  show PW _ _ _ _ _ _ (3371, [(0, .ref 1000000), (1, .ref 0), (2, .ref 467), (3, .ref 486), (4, .int 0)], [], _)
  refine PW.wide (k' := 500) (n' := 12000) (le_b rfl) (le_b rfl) ?_
  exact PW.drop (lv' := lvE) (fun q hq => by simp only [lvE, List.mem_cons, List.not_mem_nil, or_false] at hq; rcases hq with rfl | rfl | rfl | rfl | rfl <;> simp [lvE]) (hend _)
theorem law_70 {G : pG} {w : pW} {xs : Nat → Int32} (hl : (g_l G).stackTraces = false) (hC : Has cfL w.2) (hM : Has mfL w.2) (hs : w.2 1000000 = .inl (0, 6, .inl xs)) (hx : w.1 < 1000000) (hend : ∀ w' : pW, PW G M_Law_law room_1 (QL G) 500 12000 (3371, lvE, [], w')) : PW G M_Law_law room_1 (QL G) 487 11543 (3321, lvE, [], w) := by
  refine P_aload_n d_Law_law_3321 rfl ?_
  refine P_aload_n d_Law_law_3322 rfl ?_
  refine P_iload d_Law_law_3323 rfl ?_
  refine P_iconst (v := 1) d_Law_law_3325 (by decide) ?_
  refine P_iadd d_Law_law_3326 ?_
  refine P_iald (j := 1) d_Law_law_3327 hs ⟨by decide, by decide⟩ (by decide) ?_
  refine P_callV (M := M_Law_law) (pc := 3328) (as := [.int (xs 1)]) (b := 0) d_Law_law_3328 co_CM_size ok_CM (fa hC 28 rfl) L_Law_321 im_CM_size se_CM_size (z_CM_size hC (xs 1)) rfl ⟨by decide, by decide⟩ ⟨by decide, by decide⟩ (by exact le_b rfl) ?_ _ rfl
  rintro _ _ ⟨rfl, rfl⟩
  show PW _ _ _ _ _ _ (3331, _, [.int (-1)], _)
  refine P_aload_n d_Law_law_3331 rfl ?_
  refine P_aload_n d_Law_law_3332 rfl ?_
  refine P_iload d_Law_law_3333 rfl ?_
  refine P_iconst (v := 1) d_Law_law_3335 (by decide) ?_
  refine P_iadd d_Law_law_3336 ?_
  refine P_iald (j := 1) d_Law_law_3337 hs ⟨by decide, by decide⟩ (by decide) ?_
  refine P_callV (M := M_Law_law) (pc := 3338) (as := [.int (xs 1)]) (b := 467) d_Law_law_3338 co_MD_size ok_Model (fa hM 18 rfl) L_Law_324 im_MD_size se_MD_size (z_MD_size hM (xs 1)) rfl ⟨by decide, by decide⟩ ⟨by decide, by decide⟩ (by exact le_b rfl) ?_ _ rfl
  rintro _ _ ⟨rfl, rfl⟩
  show PW _ _ _ _ _ _ (3341, _, [.int (-1), .int (-1)], _)
  refine P_icmp_eq 3371 d_Law_law_3341 (by decide) (fun _ => ?_) (fun h => absurd (by decide) h)
  show PW _ _ _ _ _ _ (3371, [(0, .ref 1000000), (1, .ref 0), (2, .ref 467), (3, .ref 486), (4, .int 0)], [], _)
  refine PW.wide (k' := 500) (n' := 12000) (le_b rfl) (le_b rfl) ?_
  exact PW.drop (lv' := lvE) (fun q hq => by simp only [lvE, List.mem_cons, List.not_mem_nil, or_false] at hq; rcases hq with rfl | rfl | rfl | rfl | rfl <;> simp [lvE]) (hend _)
theorem law_71 {G : pG} {w : pW} {xs : Nat → Int32} (hl : (g_l G).stackTraces = false) (hC : Has cfL w.2) (hM : Has mfL w.2) (hs : w.2 1000000 = .inl (0, 6, .inl xs)) (hx : w.1 < 1000000) (hend : ∀ w' : pW, PW G M_Law_law room_1 (QL G) 500 12000 (3371, lvE, [], w')) : PW G M_Law_law room_1 (QL G) 487 11543 (3346, lvE, [], w) := by
  refine P_aload_n d_Law_law_3346 rfl ?_
  refine P_aload_n d_Law_law_3347 rfl ?_
  refine P_iload d_Law_law_3348 rfl ?_
  refine P_iconst (v := 1) d_Law_law_3350 (by decide) ?_
  refine P_iadd d_Law_law_3351 ?_
  refine P_iald (j := 1) d_Law_law_3352 hs ⟨by decide, by decide⟩ (by decide) ?_
  refine P_callV (M := M_Law_law) (pc := 3353) (as := [.int (xs 1)]) (b := 0) d_Law_law_3353 co_CM_count ok_CM (fa hC 28 rfl) L_Law_325 im_CM_count se_CM_count (z_CM_count hC (xs 1)) rfl ⟨by decide, by decide⟩ ⟨by decide, by decide⟩ (by exact le_b rfl) ?_ _ rfl
  rintro _ _ ⟨rfl, rfl⟩
  show PW _ _ _ _ _ _ (3356, _, [.int (ff 0 6 0 (-1) (xs 1))], _)
  refine P_aload_n d_Law_law_3356 rfl ?_
  refine P_aload_n d_Law_law_3357 rfl ?_
  refine P_iload d_Law_law_3358 rfl ?_
  refine P_iconst (v := 1) d_Law_law_3360 (by decide) ?_
  refine P_iadd d_Law_law_3361 ?_
  refine P_iald (j := 1) d_Law_law_3362 hs ⟨by decide, by decide⟩ (by decide) ?_
  refine P_callV (M := M_Law_law) (pc := 3363) (as := [.int (xs 1)]) (b := 467) d_Law_law_3363 co_MD_count ok_Model (fa hM 18 rfl) L_Law_328 im_MD_count se_MD_count (z_MD_count hM (xs 1)) rfl ⟨by decide, by decide⟩ ⟨by decide, by decide⟩ (by exact le_b rfl) ?_ _ rfl
  rintro _ _ ⟨rfl, rfl⟩
  show PW _ _ _ _ _ _ (3366, _, [.int (ff 0 6 0 (-1) (xs 1)), .int (ff 0 6 0 (-1) (xs 1))], _)
  refine P_icmp_eq 3371 d_Law_law_3366 (by decide) (fun _ => ?_) (fun h => absurd rfl h)
  show PW _ _ _ _ _ _ (3371, [(0, .ref 1000000), (1, .ref 0), (2, .ref 467), (3, .ref 486), (4, .int 0)], [], _)
  refine PW.wide (k' := 500) (n' := 12000) (le_b rfl) (le_b rfl) ?_
  exact PW.drop (lv' := lvE) (fun q hq => by simp only [lvE, List.mem_cons, List.not_mem_nil, or_false] at hq; rcases hq with rfl | rfl | rfl | rfl | rfl <;> simp [lvE]) (hend _)
