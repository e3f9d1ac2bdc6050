/-! the JDK's small functions, rows copied, rows of rows -/
section PWX
variable {G : pG} {M : pM} {R : Room} {QF : List Frame → Array Value → State → State → Prop} {k n pc : Nat} {lv : List (Nat × Value)} {st : List Value} {w : pW}
theorem sum8 {st : List Value} {f : Nat → Nat} {z L : Nat} (h : (st.map Value.category).sum ≤ 8) (hz : 8 + z ≤ L) : ((st.map (tv f)).map fun v => v.category).sum + z ≤ L := by
  rw [sum_tv]; omega
theorem P_mabsl {index : Nat} {x : Int64} (d : decode M.2.1 pc = .ok (.invokestatic index, 3)) (hl : Cond.methodLink M.1.cls index Lib.MathLoose.abs_long.x ∈ gtbl) (hst : Cond.static Lib.MathLoose.abs_long.x ∈ gtbl) (hini : Cond.initialized "java/lang/Math" ∈ gtbl) (hco : Cond.code Lib.MathLoose.abs_long.x Lib.MathLoose.abs_long.code 2 (some .long) ∈ gtbl) (hR : 1 ≤ R.frames ∧ 23 ≤ R.locals ∧ k ≤ R.cells ∧ n ≤ R.slots) (hcat : (st.map Value.category).sum ≤ 8)
    (kk : PW G M R QF k n (pc + 3, lv, .long (if 0 < x then x else -x) :: st, w)) : PW G M R QF k n (pc, lv, .long x :: st, w) := by
  intro p e s m args below meth c hc H locs ls hl0 hH hS
  have hts := hc.2.2.2.2.2.2.2.1
  exact va_mabs_long hc.1 hc.2.1 (hc.2.2.1.trans hl0.1.symm) hc.2.2.2.2.2.2.1 (hts _ hl) (hts _ hst) (hts _ hini) (hts _ hco) hR.1 (sum8 hcat (by omega)) hR.2.2.1 hR.2.2.2 d (kk p e s m args below meth c hc H locs ls hl0 hH hS)
theorem P_mmaxl {index : Nat} {x y : Int64} (d : decode M.2.1 pc = .ok (.invokestatic index, 3)) (hl : Cond.methodLink M.1.cls index Lib.MathLoose.max_long.x ∈ gtbl) (hst : Cond.static Lib.MathLoose.max_long.x ∈ gtbl) (hini : Cond.initialized "java/lang/Math" ∈ gtbl) (hco : Cond.code Lib.MathLoose.max_long.x Lib.MathLoose.max_long.code 4 (some .long) ∈ gtbl) (hR : 1 ≤ R.frames ∧ 23 ≤ R.locals ∧ k ≤ R.cells ∧ n ≤ R.slots) (hcat : (st.map Value.category).sum ≤ 8)
    (kk : PW G M R QF k n (pc + 3, lv, .long (if y < x then x else y) :: st, w)) : PW G M R QF k n (pc, lv, .long y :: .long x :: st, w) := by
  intro p e s m args below meth c hc H locs ls hl0 hH hS
  have hts := hc.2.2.2.2.2.2.2.1
  exact va_mmax_long hc.1 hc.2.1 (hc.2.2.1.trans hl0.1.symm) hc.2.2.2.2.2.2.1 (hts _ hl) (hts _ hst) (hts _ hini) (hts _ hco) hR.1 (sum8 hcat (by omega)) hR.2.2.1 hR.2.2.2 d (kk p e s m args below meth c hc H locs ls hl0 hH hS)
theorem P_mmini {index : Nat} {x y : Int32} (d : decode M.2.1 pc = .ok (.invokestatic index, 3)) (hl : Cond.methodLink M.1.cls index Lib.Math.min.name ∈ gtbl) (hst : Cond.static Lib.Math.min.name ∈ gtbl) (hini : Cond.initialized "java/lang/Math" ∈ gtbl) (hco : Cond.code Lib.Math.min.name Lib.Math.min.code 2 (some .int) ∈ gtbl) (hR : 1 ≤ R.frames ∧ 23 ≤ R.locals ∧ k ≤ R.cells ∧ n ≤ R.slots) (hcat : (st.map Value.category).sum ≤ 8)
    (kk : PW G M R QF k n (pc + 3, lv, .int (if y < x then y else x) :: st, w)) : PW G M R QF k n (pc, lv, .int y :: .int x :: st, w) := by
  intro p e s m args below meth c hc H locs ls hl0 hH hS
  have hts := hc.2.2.2.2.2.2.2.1
  exact va_mmin hc.1 hc.2.1 (hc.2.2.1.trans hl0.1.symm) hc.2.2.2.2.2.2.1 (hts _ hl) (hts _ hst) (hts _ hini) (hts _ hco) hR.1 (sum8 hcat (by omega)) hR.2.2.1 hR.2.2.2 d (kk p e s m args below meth c hc H locs ls hl0 hH hS)
theorem ix_toInt {z : Int32} {j : Nat} (h : ix z j) : z.toInt = (j : Int) := by
  have hz0 : (0 : Int) ≤ z.toInt := by
    have := Int32.not_lt.mp h.2
    simpa using Int32.le_iff_toInt_le.mp this
  have h1 := h.1
  have h2 : z.toInt.toNat = j := h1
  omega
/-- System.arraycopy between rows of longs -/
theorem P_copyl {index a b na nb : Nat} {sp dp nn : Int32} {i j q : Nat} {f g : Nat → Int64} (d : decode M.2.1 pc = .ok (.invokestatic index, 3)) (hlk : Cond.methodLink M.1.cls index arraycopyName ∈ gtbl) (hna : Cond.native arraycopyName ∈ gtbl) (hst : Cond.static arraycopyName ∈ gtbl) (hini : Cond.initialized "java/lang/System" ∈ gtbl)
    (ha : w.2 a = .inl (1, na, .inr (.inl f))) (hb : w.2 b = .inl (1, nb, .inr (.inl g))) (hbx : b < 1000000) (hi : ix sp i) (hj : ix dp j) (hq : ix nn q) (h4 : i + q ≤ na) (h5 : j + q ≤ nb) (hR : 1 ≤ R.frames ∧ 60 ≤ R.locals) (hcat : (st.map Value.category).sum ≤ 8)
    (kk : PW G M R QF k n (pc + 3, lv, st, (w.1, wu w.2 b (.inl (1, nb, .inr (.inl (va_cpy f g i j q))))))) : PW G M R QF k n (pc, lv, .int nn :: .int dp :: .ref b :: .int sp :: .ref a :: st, w) := by
  intro p e s m args below meth c hc H locs ls hl0 hH hS T hT X
  have hts := hc.2.2.2.2.2.2.2.1
  have hK := hc.2.2.2.2.2.2.2.2.1.1
  obtain ⟨-, ca, a1, a2, a3, a4, a5, a6⟩ := pe_arr hK hc.2.2.2.2.2.2.2.2.2.1 hS hH ha
  obtain ⟨b0, b1, b2⟩ := own_arr hH hb hbx
  obtain ⟨hao, k0, hk0, cm0, hkk0⟩ := a2
  obtain ⟨-, k1, hk1, cm1, hkk1⟩ := (hK.2 1 _ (tysG_at G b1)).1 nb (fun j => tv (g_f G) (pv (nb, .inr (.inl g)) j))
  have e1 : ∀ z, z < q → ca.slots.getD (i + z) .null = .long (f (i + z)) := fun z hz => by
    rw [Array.getD_eq_getD_getElem?, a6 (i + z) (by show i + z < na; omega)]
    rfl
  have hs : ca.stretch i q = (arrV 0 (i + q) (fun z => .long (f z))).stretch i q := by
    unfold Cell.stretch
    apply List.map_congr_left
    intro z hz
    have hz' := List.mem_range.mp hz
    rw [e1 z hz', Array.getD_eq_getD_getElem?, arrV_read _ _ (by omega)]
    rfl
  have w5 : nativeFrameWords "java/lang/System" "arraycopy" 5 + 11 ≤ 52 := by decide +kernel
  obtain ⟨vm', X', step⟩ := X.arraycopy hc.1 hc.2.2.2.2.2.2.1 (hts _ hlk) (hts _ hna) (hts _ hst) (hts _ hini) (src := g_f G a) (dst := g_f G b) (cs := ca) (cd := arrV (g_c G 1) nb (fun j => tv (g_f G) (pv (nb, .inr (.inl g)) j))) (srcPos := sp) (destPos := dp) (n := nn) (by rw [hT]; exact a1) (by rw [hT]; exact b2)
    hao (fun _ h => by cases h) a3 (fun h => by cases h) hk0 hk1 hkk0 hkk1 (show ((refKind FieldType.long != refKind FieldType.long) || (!refKind FieldType.long && FieldType.long != FieldType.long)) = false by decide) hi.2 hj.2 hq.2
    (by rw [ix_toInt hi, ix_toInt hq]; have a4 : na ≤ ca.slots.size := a4; omega)
    (by rw [ix_toInt hj, ix_toInt hq, arrV_size]; omega)
    (fun vm₁ _ z hz => by
      rw [hq.1] at hz
      rw [hi.1, e1 z hz]
      exact ⟨rfl, trivial⟩)
    (g := F0 m pc ls (.int nn :: .int dp :: .ref (g_f G b) :: .int sp :: .ref (g_f G a) :: st.map (tv (g_f G)))) rfl (hl0.1.trans hc.2.2.1.symm) (rest := st.map (tv (g_f G))) rfl (by rw [hc.2.1]; exact d) hR.1 (by
      have h8 := room8 (m := m) (pc := pc) (ls := ls) (s0 := .int nn :: .int dp :: .ref (g_f G b) :: .int sp :: .ref (g_f G a) :: st.map (tv (g_f G))) (f := g_f G) hcat
      omega)
  have e2 : copied ca (arrV (g_c G 1) nb (fun j => tv (g_f G) (pv (nb, .inr (.inl g)) j))) sp dp nn = arrV (g_c G 1) nb (fun z => .long (va_cpy f g i j q z)) := by
    unfold copied
    rw [hi.1, hj.1, hq.1, hs]
    exact va_copied (fun z => .long z) 0 (g_c G 1) f g (Nat.le_refl _)
  rw [e2] at X' step
  have hl : g_f G b < H.size := (Array.getElem?_eq_some_iff.mp b2).1
  have hheap : ((T.setVm vm').setCell (g_f G b) (arrV (g_c G 1) nb (fun z => .long (va_cpy f g i j q z)))).heap = H.setIfInBounds (g_f G b) (arrV (g_c G 1) nb (fun z => .long (va_cpy f g i j q z))) := by rw [← hT]; rfl
  have oq : ∀ z : Nat, z ≠ g_f G b → (H.setIfInBounds (g_f G b) (arrV (g_c G 1) nb (fun z => .long (va_cpy f g i j q z))))[z]? = H[z]? := fun z hz => by simp [Array.getElem?_setIfInBounds, Ne.symm hz]
  obtain ⟨t, x1, x2⟩ := kk p e s m args below meth c hc _ _ ls hl0 (hH.set b0 (e := .inl (1, nb, .inr (.inl (va_cpy f g i j q)))) ⟨(by decide : 1 < 5), by simp [Array.getElem?_setIfInBounds, hl]; rfl⟩ (by simp) oq) ⟨by simp; exact hS.1, fun z g1 g2 => by
      rw [oq z (fun e => g2 (by rw [e]; exact g_A_f hbx))]
      exact hS.2.1 z g1 g2, fun z hz => by
      rcases List.mem_append.mp hz with h | h
      · exact hS.2.2 z h
      · obtain ⟨y, -, hy⟩ := List.mem_map.mp h
        rw [← hy]
        exact g_A_f hbx⟩ _ hheap X'
  exact ⟨t, step t x1, x2⟩
/-- the world grows by several cells at once -/
theorem HW.grow {G : pG} {w w' : pW} {H H1 : Heap} (h : HW G w H) (h1 : w.1 ≤ w'.1) (h2 : w'.1 ≤ 1000000) (z : H1.size = g_b G + w'.1) (oq : ∀ q : Nat, q < H.size → H1[q]? = H[q]?) (hold : ∀ i, i < w.1 → w'.2 i = w.2 i) (hnew : ∀ i, w.1 ≤ i → i < w'.1 → pat G i (w'.2 i) H1) (hout : ∀ i, w'.1 ≤ i → w'.2 i = w.2 i) : HW G w' H1 := by
  obtain ⟨g1, g2, g3, g4, g5⟩ := h
  refine ⟨z, h2, fun i hi => ?_, fun i hi hx => ?_, fun j => ?_⟩
  · by_cases hl : i < w.1
    · rw [hold i hl]
      refine (g3 i hl).kept (oq _ ?_)
      rw [g_f_own (by omega)]
      omega
    · exact hnew i (by omega) hi
  · rw [hout i hi]
    exact g4 i (by omega) hx
  · rw [hout _ (by omega)]
    exact g5 j
def wr (f : Nat → pE) (lo hi : Nat) (e : pE) : Nat → pE := fun i => if lo ≤ i ∧ i < hi then e else f i
theorem wr_in {f : Nat → pE} {lo hi i : Nat} {e : pE} (h1 : lo ≤ i) (h2 : i < hi) : wr f lo hi e i = e := if_pos ⟨h1, h2⟩
theorem wr_out {f : Nat → pE} {lo hi i : Nat} {e : pE} (h : ¬ (lo ≤ i ∧ i < hi)) : wr f lo hi e i = f i := if_neg h
theorem vr_outer (c : ClassId) (N h0 : Nat) : ∀ i : Nat, Jvm.Free.Multi.outerC c N h0 i = arrV c N (fun j => va_rf (if j < i then some (h0 + 1 + j) else none))
  | 0 => by
    show ({ cls := c, slots := Array.replicate N .null, vm := .none } : Cell) = _
    rw [arrV_new]
    refine congrArg (arrV c N) (funext fun j => ?_)
    simp [va_rf]
  | i + 1 => by
    show (Jvm.Free.Multi.outerC c N h0 i).setSlot i (.ref (h0 + 1 + i)) = _
    rw [vr_outer c N h0 i, arrV_store]
    refine congrArg (arrV c N) (funext fun j => ?_)
    by_cases e : j = i
    · subst e
      simp [updV, va_rf]
    · by_cases h : j < i
      · simp [updV, e, h, Nat.lt_succ_of_lt h]
      · simp [updV, e, h, show ¬ j < i + 1 by omega]
def rows_of (n0 N : Nat) : Nat → Option Nat := fun i => if i < N then some (n0 + 1 + i) else none
/-- new long[N][K] -/
theorem P_mnew {index N K : Nat} {z y : Int32} (d : decode M.2.1 pc = .ok (.multianewarray index 2, 4)) (hcl : Cond.classLink M.1.cls index "[[J" ∈ gtbl) (hac : Cond.arrayClass .long ∈ gtbl) (hz : ix z N) (hy : ix y K) (hb1 : N * 4 ≤ 536870912) (hb2 : K * componentBytes .long ≤ 536870912) (hcells : k + (1 + N) ≤ R.cells) (hslots : n + (N + N * K) ≤ R.slots) (hwx : w.1 + 1 + N ≤ 1000000)
    (kk : PW G M R QF (k + 1 + N) (n + N + N * K) (pc + 4, lv, .ref w.1 :: st, (w.1 + 1 + N, wr (wu w.2 w.1 (.inl (3, N, .inr (.inr (.inr (.inr (rows_of w.1 N))))))) (w.1 + 1) (w.1 + 1 + N) (.inl (1, K, .inr (.inl (fun _ => 0))))))) : PW G M R QF k n (pc, lv, .int y :: .int z :: st, w) := by
  intro p e s m args below meth c hc H locs ls hl0 hH hS T hT X
  have hts := hc.2.2.2.2.2.2.2.1
  have hKX := hc.2.2.2.2.2.2.2.2.1
  have hK := hKX.1
  obtain ⟨hz1, hz2⟩ := hz
  obtain ⟨hy1, hy2⟩ := hy
  subst hz1
  subst hy1
  have hb3 : y.toNatClampNeg ≤ 536870912 := by
    have : componentBytes .long = 8 := rfl
    rw [this] at hb2
    omega
  have hover : (Cond.arrayOver (.array .long)).before args s = true := Stand.arrayOver_alikeB (Vm.Alike.refl s.vm) hKX.2.2.2
  obtain ⟨vm₁, cA, comp, -, fA, fC, -, -, X', step⟩ := X.multianewarray2F hc.1 hc.2.2.2.2.2.2.1 (hts _ hcl) hover (hts _ hac) (g := F0 m pc ls (.int y :: .int z :: st.map (tv (g_f G)))) rfl (by rw [hc.2.1]; exact d) rfl hz2 hy2 hb1 hb2 hb3 rfl rfl hcells hslots
  have hTh : (T.setVm vm₁).heap = H := hT
  obtain ⟨f1, f2, -, -⟩ := Jvm.Free.Multi.fill_facts (T.setVm vm₁) cA comp z.toNatClampNeg y.toNatClampNeg (defaultValue .long) z.toNatClampNeg
  have hold : ∀ x : Nat, x < H.size → (Jvm.Free.Multi.fill (T.setVm vm₁) cA comp z.toNatClampNeg y.toNatClampNeg (defaultValue .long) z.toNatClampNeg).heap[x]? = H[x]? := fun x hx => by
    have := Jvm.Free.Multi.fill_old (T.setVm vm₁) cA comp z.toNatClampNeg y.toNatClampNeg (defaultValue .long) (a := x) (by rw [hTh]; exact hx) z.toNatClampNeg
    rw [hTh] at this
    exact this
  have hrow : ∀ j : Nat, j < z.toNatClampNeg → (Jvm.Free.Multi.fill (T.setVm vm₁) cA comp z.toNatClampNeg y.toNatClampNeg (defaultValue .long) z.toNatClampNeg).heap[H.size + 1 + j]? = some (Jvm.Free.Multi.innerC comp y.toNatClampNeg (defaultValue .long)) := fun j hj => by
    have := Jvm.Free.Multi.fill_inner (T.setVm vm₁) cA comp z.toNatClampNeg y.toNatClampNeg (defaultValue .long) z.toNatClampNeg j hj
    rw [hTh] at this
    exact this
  rw [hTh] at f1 f2
  rw [vr_outer] at f2
  generalize hF : Jvm.Free.Multi.fill (T.setVm vm₁) cA comp z.toNatClampNeg y.toNatClampNeg (defaultValue .long) z.toNatClampNeg = F at X' step f1 f2 hold hrow
  have cA3 : cA = g_c G 3 := Option.some.inj (fA.symm.trans (hK.2 3 _ (tysG_at G (by decide))).2)
  have cC1 : comp = g_c G 1 := Option.some.inj (fC.symm.trans (hK.2 1 _ (tysG_at G (by decide))).2)
  have hs0 : H.size = g_b G + w.1 := hH.1
  have e2 : g_f G w.1 = H.size := by rw [g_f_own (by omega)]; exact hs0.symm
  have key := kk p e s m args below meth c hc F.heap locs ls hl0 (hH.grow (w' := (w.1 + 1 + z.toNatClampNeg, wr (wu w.2 w.1 (.inl (3, z.toNatClampNeg, .inr (.inr (.inr (.inr (rows_of w.1 z.toNatClampNeg))))))) (w.1 + 1) (w.1 + 1 + z.toNatClampNeg) (.inl (1, y.toNatClampNeg, .inr (.inl (fun _ => 0)))))) (by show w.1 ≤ w.1 + 1 + _; omega) hwx (by show F.heap.size = g_b G + (w.1 + 1 + _); omega) hold
    (fun i hi => by
      have hi : i < w.1 := hi
      exact (wr_out (by omega)).trans (wu_n (by omega)))
    (fun i h1 h2 => by
      have h1 : w.1 ≤ i := h1
      have h2 : i < w.1 + 1 + z.toNatClampNeg := h2
      by_cases he : i = w.1
      · subst he
        show pat G w.1 (wr (wu w.2 w.1 _) (w.1 + 1) (w.1 + 1 + z.toNatClampNeg) _ w.1) F.heap
        rw [wr_out (by omega), wu_s]
        refine ⟨(by decide : 3 < 5), ?_⟩
        rw [e2, f2, ta_cell, cA3]
        refine congrArg some (congrArg (arrV _ _) (funext fun j => ?_))
        show _ = tv (g_f G) (va_rf (rows_of w.1 z.toNatClampNeg j))
        rw [tv_rf]
        unfold rows_of
        by_cases hj : j < z.toNatClampNeg
        · rw [if_pos hj, if_pos hj]
          show va_rf (some (H.size + 1 + j)) = va_rf (some (g_f G (w.1 + 1 + j)))
          rw [g_f_own (by omega), hs0]
          congr 2
          omega
        · rw [if_neg hj, if_neg hj]
          rfl
      · obtain ⟨j, hj⟩ : ∃ j, i = w.1 + 1 + j := ⟨i - (w.1 + 1), by omega⟩
        subst hj
        show pat G (w.1 + 1 + j) (wr (wu w.2 w.1 _) (w.1 + 1) (w.1 + 1 + z.toNatClampNeg) _ (w.1 + 1 + j)) F.heap
        rw [wr_in (by omega) h2]
        refine ⟨(by decide : 1 < 5), ?_⟩
        have hq : g_f G (w.1 + 1 + j) = H.size + 1 + j := by rw [g_f_own (by omega)]; omega
        rw [hq, hrow j (by omega), ta_cell, cC1]
        show some ({ cls := g_c G 1, slots := Array.replicate y.toNatClampNeg (defaultValue .long), vm := .none } : Cell) = _
        rw [arrV_new]
        rfl)
    (fun i h1 => by
      have h1 : w.1 + 1 + z.toNatClampNeg ≤ i := h1
      exact (wr_out (by omega)).trans (wu_n (by omega))))
    ⟨Nat.le_trans hS.1 (by rw [f1]; omega), fun q g1 g2 => (hold q (Nat.lt_of_lt_of_le g1 hS.1)).trans (hS.2.1 q g1 g2), hS.2.2⟩
  have key2 := key F rfl X'
  obtain ⟨t, x1, x2⟩ := key2
  refine ⟨t, step t ?_, x2⟩
  have e3 : T.heap.size = g_f G w.1 := by rw [hT]; exact e2.symm
  rw [e3]
  exact x1
end PWX
