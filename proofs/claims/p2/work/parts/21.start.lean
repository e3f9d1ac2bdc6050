/-! the start: outer cells, classes, statics (by program) -/
def fl1 : List Cond := flatC (Cond.and given_1 narrow_1)
def ordF : Nat → Int32 := fun j => ([0, 1, 2, 3, 0, 1, 3, 2, 0, 2, 1, 3, 0, 2, 3, 1, 0, 3, 1, 2, 0, 3, 2, 1, 1, 0, 2, 3, 1, 0, 3, 2, 1, 2, 0, 3, 1, 2, 3, 0, 1, 3, 0, 2, 1, 3, 2, 0, 2, 0, 1, 3, 2, 0, 3, 1, 2, 1, 0, 3, 2, 1, 3, 0, 2, 3, 0, 1, 2, 3, 1, 0, 3, 0, 1, 2, 3, 0, 2, 1, 3, 1, 0, 2, 3, 1, 2, 0, 3, 2, 0, 1, 3, 2, 1, 0] : List Int32).getD j 0
theorem e_ordF : ∀ j, j < 96 → fl1[8 + j]? = some (Cond.eq (.elem (.static "CornerMaps" "ORDERS" "[I") (.int (Int32.ofNat j))) (.int (ordF j))) := by decide +kernel
theorem l_ordF : fl1[7]? = some (Cond.eq (.length (.static "CornerMaps" "ORDERS" "[I")) (.int (Int32.ofNat 96))) := by decide +kernel
theorem a_ordF : fl1[6]? = some (Cond.arrayOf (.static "CornerMaps" "ORDERS" "[I") .int) := by decide +kernel
def diaF : Nat → Int32 := fun j => ([0, 1, 2, 3, 1, 2, 3, 0, 0, 2, 1, 3] : List Int32).getD j 0
theorem e_diaF : ∀ j, j < 12 → fl1[125 + j]? = some (Cond.eq (.elem (.static "CornerMaps" "DIAGONALS" "[I") (.int (Int32.ofNat j))) (.int (diaF j))) := by decide +kernel
theorem l_diaF : fl1[124]? = some (Cond.eq (.length (.static "CornerMaps" "DIAGONALS" "[I")) (.int (Int32.ofNat 12))) := by decide +kernel
theorem a_diaF : fl1[123]? = some (Cond.arrayOf (.static "CornerMaps" "DIAGONALS" "[I") .int) := by decide +kernel
def nthF : Nat → Int64 := fun j => ([1, 0, 0, 0, 1, 0, 0, 0, 1] : List Int64).getD j 0
theorem e_nthF : ∀ j, j < 9 → fl1[107 + j]? = some (Cond.eq (.elem (.static "CornerMaps" "NOTHING" "[J") (.int (Int32.ofNat j))) (.long (nthF j))) := by decide +kernel
theorem l_nthF : fl1[106]? = some (Cond.eq (.length (.static "CornerMaps" "NOTHING" "[J")) (.int (Int32.ofNat 9))) := by decide +kernel
theorem a_nthF : fl1[105]? = some (Cond.arrayOf (.static "CornerMaps" "NOTHING" "[J") .long) := by decide +kernel
def farF : Nat → Int64 := fun j => ([0, 0, 1] : List Int64).getD j 0
theorem e_farF : ∀ j, j < 3 → fl1[119 + j]? = some (Cond.eq (.elem (.static "CornerMaps" "FAR_LINE" "[J") (.int (Int32.ofNat j))) (.long (farF j))) := by decide +kernel
theorem l_farF : fl1[118]? = some (Cond.eq (.length (.static "CornerMaps" "FAR_LINE" "[J")) (.int (Int32.ofNat 3))) := by decide +kernel
theorem a_farF : fl1[117]? = some (Cond.arrayOf (.static "CornerMaps" "FAR_LINE" "[J") .long) := by decide +kernel
theorem e_cs : fl1[4]? = some (Cond.eq (.static "java/lang/String" "COMPACT_STRINGS" "Z") (.int 1)) := by decide +kernel
theorem e_us : fl1[347]? = some (Cond.isRef (.static Bundle.tN "UNASSIGNED_STACK" Bundle.steD)) := by decide +kernel
theorem e_ss : fl1[348]? = some (Cond.isRef (.static Bundle.tN "SUPPRESSED_SENTINEL" Bundle.listD)) := by decide +kernel
theorem s_ordF : Cond.laysStatic "CornerMaps" "ORDERS" "[I" ∈ lw_tbl := List.mem_append_right _ (List.mem_of_getElem? (i := 439) (by decide +kernel))
theorem s_diaF : Cond.laysStatic "CornerMaps" "DIAGONALS" "[I" ∈ lw_tbl := List.mem_append_right _ (List.mem_of_getElem? (i := 893) (by decide +kernel))
theorem s_nthF : Cond.laysStatic "CornerMaps" "NOTHING" "[J" ∈ lw_tbl := List.mem_append_right _ (List.mem_of_getElem? (i := 583) (by decide +kernel))
theorem s_farF : Cond.laysStatic "CornerMaps" "FAR_LINE" "[J" ∈ lw_tbl := List.mem_append_right _ (List.mem_of_getElem? (i := 687) (by decide +kernel))
theorem s_cs : Cond.laysStatic "java/lang/String" "COMPACT_STRINGS" "Z" ∈ lw_tbl := List.mem_append_right _ (List.mem_of_getElem? (i := 242) (by decide +kernel))
theorem s_us : Cond.laysStatic Bundle.tN "UNASSIGNED_STACK" Bundle.steD ∈ lw_tbl := List.mem_append_right _ (List.mem_of_getElem? (i := 1297) (by decide +kernel))
theorem s_ss : Cond.laysStatic Bundle.tN "SUPPRESSED_SENTINEL" Bundle.listD ∈ lw_tbl := List.mem_append_right _ (List.mem_of_getElem? (i := 1299) (by decide +kernel))
theorem y_CM : Cond.initialized "CornerMaps" ∈ lw_tbl := List.mem_append_right _ (List.mem_of_getElem? (i := 1) (by decide +kernel))
theorem y_Str : Cond.initialized "java/lang/String" ∈ lw_tbl := List.mem_append_right _ (List.mem_of_getElem? (i := 11) (by decide +kernel))
theorem y_Thr : Cond.initialized Bundle.tN ∈ lw_tbl := List.mem_append_right _ (List.mem_of_getElem? (i := 20) (by decide +kernel))
theorem o_Quad : Cond.arrayOver (.object "CornerMaps$Quad") ∈ lw_tbl := List.mem_append_right _ (List.mem_of_getElem? (i := 47) (by decide +kernel))
theorem o_long : Cond.arrayOver (.array .long) ∈ lw_tbl := List.mem_append_right _ (List.mem_of_getElem? (i := 49) (by decide +kernel))
/-- the outer cells -/
def gwF (L : Nat) (xs : Nat → Int32) : Nat → pE
  | 0 => .inl (0, L, .inl xs)
  | 1 => .inl (0, 96, .inl ordF)
  | 2 => .inl (0, 12, .inl diaF)
  | 3 => .inl (1, 9, .inr (.inl nthF))
  | 4 => .inl (1, 3, .inr (.inl farF))
  | _ => no_p
def gxF (b t1 t2 t3 t4 : Nat) : Nat → Nat
  | 0 => b
  | 1 => t1
  | 2 => t2
  | 3 => t3
  | _ => t4
def tbF : List Cond := k2_sels lw_privs
theorem nw_tab {w : Cond} (h : nword w = true) : w.onTables = true := by
  cases w <;> first | rfl | (simp [nword] at h)
theorem cls_known {s : State} {args : Array Value} (hts : ∀ w ∈ lw_tbl, w.before args s = true) : ∃ (dC : Nat → ClassId) (dI : Nat → Nat → Nat), ∀ (k : Nat) (q : vw_C), classes[k]? = some q → u_Kn s q.1 q.2.1 q.2.2 (dC k) (dI k) := by
  have hg : ∀ w ∈ gtbl, w.before args s = true := fun w hw => hts w (gtbl_in w hw).1
  have h : ∀ k : Nat, ∃ x : ClassId × (Nat → Nat), ∀ q : vw_C, classes[k]? = some q → u_Kn s q.1 q.2.1 q.2.2 x.1 x.2 := by
    intro k
    match k with
    | 0 =>
      obtain ⟨c, iS, h⟩ := u_known (s := s) (args := args) hg i_Quad (hg _ in_Quad.1)
      exact ⟨(c, iS), fun q hq => by cases hq; exact h⟩
    | 1 =>
      obtain ⟨c, iS, h⟩ := u_known (s := s) (args := args) hg i_Plane (hg _ in_Plane.1)
      exact ⟨(c, iS), fun q hq => by cases hq; exact h⟩
    | 2 =>
      obtain ⟨c, iS, h⟩ := u_known (s := s) (args := args) hg i_Tape (hg _ in_Tape.1)
      exact ⟨(c, iS), fun q hq => by cases hq; exact h⟩
    | 3 =>
      obtain ⟨c, iS, h⟩ := u_known (s := s) (args := args) hg i_Maker (hg _ in_Maker.1)
      exact ⟨(c, iS), fun q hq => by cases hq; exact h⟩
    | 4 =>
      obtain ⟨c, iS, h⟩ := u_known (s := s) (args := args) hg i_Reader (hg _ in_Reader.1)
      exact ⟨(c, iS), fun q hq => by cases hq; exact h⟩
    | 5 =>
      obtain ⟨c, iS, h⟩ := u_known (s := s) (args := args) hg i_Past (hg _ in_Past.1)
      exact ⟨(c, iS), fun q hq => by cases hq; exact h⟩
    | 6 =>
      obtain ⟨c, iS, h⟩ := u_known (s := s) (args := args) hg i_Pairs (hg _ in_Pairs.1)
      exact ⟨(c, iS), fun q hq => by cases hq; exact h⟩
    | 7 =>
      obtain ⟨c, iS, h⟩ := u_known (s := s) (args := args) hg i_SB (hg _ in_SB.1)
      exact ⟨(c, iS), fun q hq => by cases hq; exact h⟩
    | 8 =>
      obtain ⟨c, iS, h⟩ := u_known (s := s) (args := args) hg i_CM (hg _ in_CM.1)
      exact ⟨(c, iS), fun q hq => by cases hq; exact h⟩
    | 9 =>
      obtain ⟨c, iS, h⟩ := u_known (s := s) (args := args) hg i_Model (hg _ in_Model.1)
      exact ⟨(c, iS), fun q hq => by cases hq; exact h⟩
    | k + 10 => exact ⟨(default, fun _ => 0), fun q hq => by cases hq⟩
  obtain ⟨f, hf⟩ := Classical.axiomOfChoice h
  exact ⟨fun k => (f k).1, fun k => (f k).2, hf⟩
theorem arr_known {s : State} {args : Array Value} (hts : ∀ w ∈ lw_tbl, w.before args s = true) : ∃ gc : Nat → ClassId, ∀ t, t < 5 → ArrOfT s (gc t) (aty t) ∧ va_RA s (gc t) (aty t) := by
  have hg : ∀ w ∈ gtbl, w.before args s = true := fun w hw => hts w (gtbl_in w hw).1
  have prim : ∀ ty : FieldType, (Cond.arrayClass ty).before args s = true → (∀ c : ClassId, s.vm.findClass ("[" ++ ty.toString) = some c → va_RA s c ty) → ∃ c : ClassId, ArrOfT s c ty ∧ va_RA s c ty := by
    intro ty h hr
    obtain ⟨c, k, comp, h1, h2, h3⟩ := Cond.arrayClass_spec h
    exact ⟨c, fun n z => ⟨(fun k h => by cases h), k, h2, comp, h3⟩, hr c h1⟩
  obtain ⟨c0, k0⟩ := prim .int (hg _ ac_int) (fun _ h => h)
  obtain ⟨c1, k1⟩ := prim .long (hg _ ac_long) (fun _ h => h)
  obtain ⟨c2, k2⟩ := prim .byte (hg _ ac_byte) (fun _ h => h)
  obtain ⟨c3, k3⟩ : ∃ c : ClassId, ArrOfT s c (.array .long) ∧ va_RA s c (.array .long) := by
    obtain ⟨comp, c, k, h1, h2, h3, h4, h5⟩ := Stand.arrayOver_specB (hts _ o_long)
    exact ⟨c, fun n z => ⟨(fun k h => by cases h), k, h3, comp, h4⟩, h5⟩
  obtain ⟨c4, k4⟩ : ∃ c : ClassId, ArrOfT s c (.object "CornerMaps$Quad") ∧ va_RA s c (.object "CornerMaps$Quad") := by
    obtain ⟨comp, c, k, h1, h2, h3, h4, h5⟩ := Cond.arrayOver_spec (hts _ o_Quad)
    exact ⟨c, fun n z => ⟨(fun k h => by cases h), k, h3, comp, h4⟩, k, comp, h3, h4, h1, h5⟩
  refine ⟨fun t => match t with | 0 => c0 | 1 => c1 | 2 => c2 | 3 => c3 | _ => c4, fun t ht => ?_⟩
  match t, ht with
  | 0, _ => exact k0
  | 1, _ => exact k1
  | 2, _ => exact k2
  | 3, _ => exact k3
  | 4, _ => exact k4
theorem start_G {p : Program} {s : State} {m : MethodId} {meth : Method} {c : Code} (l : Launch) {b L : Nat} {xs : Nat → Int32} (C0 : lw_At p s m meth c b L xs) : ∃ G : pG, g_l G = l ∧ g_b G = s.heap.size ∧ g_w G = gwF L xs ∧ g_x G 0 = b ∧ KX G s ∧ XX G s s.heap := by
  obtain ⟨hx, hb, hr, hml, hown, hts, hX, hbl, hlocks, hgv⟩ := C0
  have hfl : ∀ (i : Nat) (w : Cond), fl1[i]? = some w → w.before #[Value.ref b] s = true := fun i w h => flat_of_before _ hgv w (List.mem_of_getElem? h)
  have hA : ∀ a : Nat, a < s.heap.size → ¬ (fun q : Nat => s.heap.size ≤ q) a := fun a h1 h2 => absurd h1 (Nat.not_lt.mpr h2)
  obtain ⟨dC, dI, hKc⟩ := cls_known hts
  obtain ⟨gc, hgc⟩ := arr_known hts
  obtain ⟨t1, v1, T1⟩ := va_Tof (N := 96) (f := fun j => .int (ordF j)) (A := fun q : Nat => s.heap.size ≤ q) (by decide) (hfl _ _ a_ordF) (va_eqt (hfl _ _ l_ordF)) (fun j hj => va_eqt (hfl _ _ (e_ordF j hj))) hA
  obtain ⟨t2, v2, T2⟩ := va_Tof (N := 12) (f := fun j => .int (diaF j)) (A := fun q : Nat => s.heap.size ≤ q) (by decide) (hfl _ _ a_diaF) (va_eqt (hfl _ _ l_diaF)) (fun j hj => va_eqt (hfl _ _ (e_diaF j hj))) hA
  obtain ⟨t3, v3, T3⟩ := va_Tof (N := 9) (f := fun j => .long (nthF j)) (A := fun q : Nat => s.heap.size ≤ q) (by decide) (hfl _ _ a_nthF) (va_eqt (hfl _ _ l_nthF)) (fun j hj => va_eqtl (hfl _ _ (e_nthF j hj))) hA
  obtain ⟨t4, v4, T4⟩ := va_Tof (N := 3) (f := fun j => .long (farF j)) (A := fun q : Nat => s.heap.size ≤ q) (by decide) (hfl _ _ a_farF) (va_eqt (hfl _ _ l_farF)) (fun j hj => va_eqtl (hfl _ _ (e_farF j hj))) hA
  have hNw : ∀ w ∈ ntbl, va_Nw w s := fun w hw => va_Nw.of (nw_tab (List.mem_filter.mp hw).2) (hts w (List.mem_append_right _ (List.mem_filter.mp hw).1))
  refine ⟨(l, s.heap.size, gxF b t1 t2 t3 t4, (dC, dI), gc, gwF L xs), rfl, rfl, rfl, rfl, ⟨⟨hKc, fun k q hk => ?_⟩, hNw, Cond.arrayOver_alike (Vm.Alike.refl s.vm) (hts _ o_Quad), Stand.arrayOver_alikeB (Vm.Alike.refl s.vm) (hts _ o_long)⟩, fun k => ?_, fun q hq => ?_, fun q hq => ?_, vx_Zqof (hts _ s_us) (hts _ y_Thr) (hfl _ _ e_us) hA, vx_Zqof (hts _ s_ss) (hts _ y_Thr) (hfl _ _ e_ss) hA⟩
  · have hk5 : k < 5 := by
      have h1 := (List.getElem?_eq_some_iff.mp hk).1
      simp only [tysG, List.length_map, List.length_range] at h1
      exact h1
    rw [tysG_at _ hk5] at hk
    cases hk
    exact hgc k hk5
  · match k with
    | 0 =>
      obtain ⟨scr, h1, h2, h3, h4, h5⟩ := hX
      exact ⟨scr, h1, h2, h3, by rw [h4]; exact Nat.le_refl _, by rw [h4], h5, hA b hbl⟩
    | 1 => exact T1
    | 2 => exact T2
    | 3 => exact T3
    | 4 => exact T4
    | k + 5 => exact (rfl : (1000 : Nat) = 1000)
  · simp only [stv, List.mem_cons, List.not_mem_nil, or_false] at hq
    subst hq
    exact va_Zof (hts _ s_cs) (hts _ y_Str) (va_eqt (hfl _ _ e_cs)) hA
  · simp only [sts, List.mem_cons, List.not_mem_nil, or_false] at hq
    rcases hq with rfl | rfl | rfl | rfl
    · exact va_Zof (hts _ s_ordF) (hts _ y_CM) v1 hA
    · exact va_Zof (hts _ s_diaF) (hts _ y_CM) v2 hA
    · exact va_Zof (hts _ s_nthF) (hts _ y_CM) v3 hA
    · exact va_Zof (hts _ s_farF) (hts _ y_CM) v4 hA
