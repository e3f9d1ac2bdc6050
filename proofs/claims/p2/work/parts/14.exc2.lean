/-! calls that throw -/
/-- 'throw new E()', its new cell counted (follows vx_throw0 of this kit) -/
theorem vx_throw1 {p : Program} {l : Launch} {e : Env} {R : Room} {s : State} {m : MethodId} {args : Array Value} {below : List Frame} {meth : Method} {c : Code} {H : Heap} {locs : List Loc} {cells slots : Nat} {ls : Array Slot} {rest : List Value} {Qc : Array Value → State → Outcome → State → Prop} {XC : String → State → State → Prop} {free : Addr → Prop} {cc : ByteArray} {pc : Nat} (hexec : p.tables.exec = Jvm.exec) (hb : c.code = cc) (hl : l.stackTraces = false) {own cls : String} {names : List String} {ik ic mc ms : Nat} {A : Nat → Prop}
    (hown : s.vm.findClass own = some m.cls) (hcls : Bundle.fit cls = true) (hnames : ∀ n ∈ names, Bundle.fit n = true)
    (hk : (Cond.classLink own ik cls).before args s = true) (hini : (Cond.initialized cls).before args s = true) (hat : ∀ w ∈ vx_at0 own ic cls names, w.before args s = true)
    (hgood : ∀ w ∈ Cond.classLink own ik cls :: Cond.initialized cls :: vx_at0 own ic cls names, vx_ot w = true)
    (hU : vx_Zq Bundle.tN "UNASSIGNED_STACK" Bundle.steD A s s.heap) (hN : vx_Zq Bundle.tN "SUPPRESSED_SENTINEL" Bundle.listD A s s.heap) (hS : va_S A s.heap H locs) (hsize : ls.size = c.maxLocals)
    (d0 : decode cc pc = .ok (.new ik, 3)) (d3 : decode cc (pc + 3) = .ok (.dup, 1)) (d4 : decode cc (pc + 4) = .ok (.invokespecial ic, 3)) (d7 : decode cc (pc + 7) = .ok (.athrow, 1))
    (hout : ∀ x ∈ c.exceptionTable.toList, covers x (pc + 7) = false)
    (hRframes : names.length + 3 < R.frames) (hRlocals : (rest.map fun v => v.category).sum + (13 * (names.length + 1) + 42) ≤ R.locals) (hRcells : cells + 1 ≤ R.cells) (hRslots : slots + 6 ≤ R.slots) (hlocks : meth.locks = false)
    (hx : ∀ t : State, s.WarmedH t.vm → t.heap.size = H.size + 1 → (∀ q : Nat, q < H.size → t.heap[q]? = H[q]?) → XC cls s t)
    (hf : ∀ z ∈ locs, free z.base) (hc : cells + 1 ≤ mc) (hs : slots + 6 ≤ ms) :
    W p l e R s m args below meth c H locs cells slots (vx_MQ below Qc XC args s mc ms free) (F0 m pc ls rest) := by
  intro T hT X
  have htr : e.platform.stackTraces = false := (show e.platform.stackTraces = l.stackTraces by rw [X.admits.platform]).trans hl
  have Y := vx_rebase X (R' := { frames := R.frames, locals := R.locals, cells := 1, slots := 6 }) (Nat.le_refl _) (Nat.le_refl _) hRcells hRslots
  obtain ⟨s', hA⟩ : ∃ z, z = (T.setVm s.vm).setFrames (.invoking m args :: below) := ⟨_, rfl⟩
  rw [← hA] at Y
  have hvm : s'.vm = s.vm := by rw [hA]; rfl
  have hhp : s'.heap = H := by rw [hA]; exact hT
  have hW0 : s.WarmedH s'.vm := by rw [hvm]; exact State.WarmedH.refl s
  have hat' : ∀ w ∈ vx_at0 own ic cls names, w.before args s' = true := fun w hw => vx_ot_at hW0 hvm.symm (hgood w (List.mem_cons_of_mem _ (List.mem_cons_of_mem _ hw))) (hat w hw)
  have hk' : (Cond.classLink own ik cls).before args s' = true := vx_ot_at hW0 hvm.symm (hgood _ List.mem_cons_self) hk
  have hini' : (Cond.initialized cls).before args s' = true := vx_ot_at hW0 hvm.symm (hgood _ (List.mem_cons_of_mem _ List.mem_cons_self)) hini
  have hU' : vx_Zq Bundle.tN "UNASSIGNED_STACK" Bundle.steD A s' s'.heap := by rw [hhp]; exact vx_Zq.moved hW0.alike (hU.kept hS.2.1)
  have hN' : vx_Zq Bundle.tN "SUPPRESSED_SENTINEL" Bundle.listD A s' s'.heap := by rw [hhp]; exact vx_Zq.moved hW0.alike (hN.kept hS.2.1)
  have h : ∀ w ∈ Bundle.ownAtoms0 own ic cls names, w.before args s' = true := vx_own hat' (vx_isRefq hU'.1) (vx_isRefq hN'.1) hU'.2.word hN'.2.word
  have hown' : s'.vm.findClass own = some m.cls := by rw [hvm]; exact hown
  have hins : (Cond.instantiable cls 6).before args s' = true := h _ (by simp [Bundle.ownAtoms0])
  obtain ⟨vm₁, cX, kX, hfX, hkX, -, -, X₁, st1⟩ := Y.newCold hexec (own := own) (C := cls) (index := ik) (n := 6) hown' hk' hins hini'
    (g := F0 m pc ls rest) rfl (by rw [hb]; exact d0) (Nat.le_refl _) (Nat.le_refl _)
  generalize hT1 : (T.setVm vm₁).pushCell { cls := cX, slots := kX.instanceTypes.map defaultValue, vm := .none } = T1 at X₁ st1
  have hcat : (Value.ref T.heap.size).category = 1 := rfl
  have hcellA : T1.heap[T.heap.size]? = some (freshCell cX kX) := by rw [← hT1]; exact State.heap_pushCell_size _ _
  have d3' : decode c.code (pc + 3) = .ok (.dup, 1) := by rw [hb]; exact d3
  obtain ⟨U, hsteps, hrun, hend, hW, hsame, ce, hce, hO⟩ := X₁.ctorThrow0 hexec htr (own := own) (cls := cls) (names := names) (ic := ic) hown' hcls hnames h (fun x hx => nomatch hx) hfX hkX hcellA (by rw [hhp, hT]; exact Nat.le_refl _)
    (g := { method := m, pc := pc + 4, locals := ls, stack := .ref T.heap.size :: .ref T.heap.size :: rest, locked := none }) rfl hsize rfl rfl (rest := rest) rfl
    (by rw [hb]; exact d4) (by rw [hb]; exact d7) hout hRframes (by simp only [List.map_cons, List.sum_cons, hcat]; omega) hlocks
  obtain ⟨f1, f2⟩ := vx_frame hsame
  rw [hhp] at f1 f2
  have hWs : s.WarmedH U.vm := State.WarmedH.trans hW0 hW
  have hz : U.heap.size = H.size + 1 := by
    have g1 : T.heap.size < U.heap.size := (Array.getElem?_eq_some_iff.mp hce).1
    rw [hT] at g1
    have g2 : U.heap.size ≤ s'.heap.size + (0 + 1) := hsame.2.2.1
    rw [hhp] at g2
    omega
  have hcl : s.vm.findClass cls = some ce.cls := by
    have h9 := hO.cls
    rw [hvm] at h9
    exact h9
  have hall : s.sameButNew ({ U with vm := s.vm } : State) locs mc ms := by
    subst hA
    obtain ⟨e1, e2⟩ := hsame
    rw [State.setFrames_setFrames] at e1
    have h2 : (T.setVm s.vm).sameButNew ({ U with vm := s.vm } : State) [] (0 + 1) (0 + 6) := ⟨e1, e2⟩
    have h3 := X.same.trans h2
    rw [List.append_nil] at h3
    exact h3.mono hc hs
  refine ⟨U, ?_, .threw T.heap.size, hrun, hend, Or.inr ⟨T.heap.size, rfl, cls, ce, locs, hx U hWs hz (fun q hq => f2 q hq (fun z hz => nomatch hz)), hce, hO.vm, hcl, hWs, hall, hf⟩⟩
  refine st1 _ ?_
  show Steps p.tables e below (T1.setTop { method := m, pc := pc + 3, locals := ls, stack := .ref T.heap.size :: rest, locked := none }) _
  jvm_step X₁.here [X₁.here.top, hexec, d3', Value.category]
  exact hsteps
def XC0 (G : pG) (QX : String → pW → Prop) : String → State → State → Prop := fun E s t => (∃ w' : pW, QX E w' ∧ HW G w' t.heap ∧ KX G t) ∧ va_F (g_A G) s t
/-- as PM, but the method may throw: an exception of class E, with QX E w' -/
def XM (G : pG) (M : pM) (d mc ms : Nat) (as : List Value) (w : pW) (Q : Option Value → pW → Prop) (QX : String → pW → Prop) : Prop := vx_Met (g_l G) M.1 (wsM M) (rmD d mc ms) (PC0 G as w) (QC G Q) (XC0 G QX) mc ms (g_A G)
def XQ (G : pG) (Q : Option Value → pW → Prop) (QX : String → pW → Prop) (mc ms : Nat) : List Frame → Array Value → State → State → Prop := fun below args s => vx_MQ below (QC G Q) (XC0 G QX) args s mc ms (g_A G)
theorem XM_of {G : pG} {M : pM} {d mc ms : Nat} {as : List Value} {w : pW} {Q : Option Value → pW → Prop} {QX : String → pW → Prop} (hy : plainName M.1.cls = true) (hlen : (lg_sl as).length ≤ M.2.2.1) (kk : PW G M (rmD d mc ms) (XQ G Q QX mc ms) 0 0 (0, lv_args 0 as, [], w)) : XM G M d mc ms as w Q QX := by
  refine vx_ofW (cc := M.2.1) (maxL := M.2.2.1) (ret := M.2.2.2) hy rfl ?_
  intro p e s m args below meth c s₁ B hml _ hv
  obtain ⟨rfl, hH, hK, hX⟩ := hv
  have hts := atoms_spec (ws := wsM M) B.pre
  have hl := lv_entry (as.map (tv (g_f G))) (n := M.2.2.1) (by rw [sl_tv]; exact hlen)
  rw [lg_entry_eq]
  rw [args_tv] at hl
  exact kk p e s m _ below meth c ⟨B.exec, B.bytes, hml, B.returns, B.notSynchronized, (name_of_methodNamed B.named B.method).1, findClass_of_methodNamed B.named, fun w hw => hts w (List.mem_cons_of_mem _ hw), hK, hX, by rw [hH.1]; exact Nat.le_add_right _ _, TB_of B⟩ s.heap [] _ hl hH va_S.rf
theorem PW.x {G : pG} {M : pM} {R : Room} {Q : Option Value → pW → Prop} {QX : String → pW → Prop} {mc ms k n : Nat} {g : pC} (kk : PW G M R (QM G Q mc ms) k n g) : PW G M R (XQ G Q QX mc ms) k n g :=
  fun p e s m args below meth c hc H locs ls hl hH hS => vx_ret (kk p e s m args below meth c hc H locs ls hl hH hS)
/-- the world with one more cell, of which nothing is said -/
theorem HW.junk {G : pG} {w : pW} {H H1 : Heap} (h : HW G w H) (hx : w.1 < 1000000) (z : H1.size = H.size + 1) (oq : ∀ q : Nat, q < H.size → H1[q]? = H[q]?) : HW G (w.1 + 1, w.2) H1 := by
  have h1 := h.push (e := no_p) hx (Or.inl rfl) z oq
  have h2 : wu w.2 w.1 no_p = w.2 := wu_same (h.2.2.2.1 w.1 (Nat.le_refl _) hx)
  rw [h2] at h1
  exact h1
def rse : List String := ["java/lang/RuntimeException", "java/lang/Exception"]
/-- the words of a throw, each of them carried -/
def ThrOK (own : String) (ik ic : Nat) (cls : String) : Prop :=
  Bundle.fit cls = true ∧ (∀ w ∈ Cond.classLink own ik cls :: Cond.initialized cls :: vx_at0 own ic cls rse, (goodWord w = true ∧ w ∈ tables_1) ∨ (nword w = true ∧ w ∈ tables_1)) ∧ ∀ w ∈ Cond.classLink own ik cls :: Cond.initialized cls :: vx_at0 own ic cls rse, vx_ot w = true
theorem rse_fit : ∀ n ∈ rse, Bundle.fit n = true := by decide +kernel
theorem P_throw {G : pG} {M : pM} {R : Room} {Q : Option Value → pW → Prop} {QX : String → pW → Prop} {k n pc mc ms ik ic : Nat} {lv : List (Nat × Value)} {st : List Value} {w : pW} {cls : String} (hl : (g_l G).stackTraces = false) (ok : ThrOK M.1.cls ik ic cls) (hco : Cond.code M.1 M.2.1 M.2.2.1 M.2.2.2 ∈ gtbl)
    (d0 : decode M.2.1 pc = .ok (.new ik, 3)) (d3 : decode M.2.1 (pc + 3) = .ok (.dup, 1)) (d4 : decode M.2.1 (pc + 4) = .ok (.invokespecial ic, 3)) (d7 : decode M.2.1 (pc + 7) = .ok (.athrow, 1))
    (hR : 6 ≤ R.frames ∧ 100 ≤ R.locals ∧ k + 1 ≤ R.cells ∧ n + 6 ≤ R.slots) (hcat : (st.map Value.category).sum ≤ 8) (hx : w.1 < 1000000) (hc1 : k + 1 ≤ mc) (hc2 : n + 6 ≤ ms) (hq : QX cls (w.1 + 1, w.2)) : PW G M R (XQ G Q QX mc ms) k n (pc, lv, st, w) := by
  intro p e s m args below meth c hc H locs ls hl0 hH hS
  have hts := hc.2.2.2.2.2.2.2.1
  have hnt := hc.2.2.2.2.2.2.2.2.1.2.1
  have hall : ∀ w ∈ Cond.classLink M.1.cls ik cls :: Cond.initialized cls :: vx_at0 M.1.cls ic cls rse, w.before args s = true := fun w hw => by
    rcases ok.2.1 w hw with ⟨h1, h2⟩ | ⟨h1, h2⟩
    · exact hts w (List.mem_filter.mpr ⟨List.mem_append_right _ h2, h1⟩)
    · have h3 := hnt w (List.mem_filter.mpr ⟨h2, h1⟩)
      exact va_Nw.use (by cases w <;> first | rfl | (simp [nword] at h1)) h3
  have hXX := hc.2.2.2.2.2.2.2.2.2.1
  have htb := hc.2.2.2.2.2.2.2.2.2.2.2.1 _ _ _ (hts _ hco)
  refine vx_throw1 hc.1 hc.2.1 hl hc.2.2.2.2.2.2.1 ok.1 rse_fit (hall _ List.mem_cons_self) (hall _ (List.mem_cons_of_mem _ List.mem_cons_self)) (fun w hw => hall w (List.mem_cons_of_mem _ (List.mem_cons_of_mem _ hw))) ok.2.2 hXX.2.2.2.1 hXX.2.2.2.2 hS (by rw [hl0.1]; exact hc.2.2.1.symm) d0 d3 d4 d7 (fun x hx => by rw [htb] at hx; cases hx) hR.1 (by
    have h8 := sum8 (f := g_f G) (z := 81) (L := R.locals) hcat (by omega)
    exact h8) hR.2.2.1 hR.2.2.2 hc.2.2.2.2.1 (fun t hW hz ho => ⟨⟨_, hq, hH.junk hx hz ho, hc.2.2.2.2.2.2.2.2.1.moved hW⟩, ?_⟩) hS.2.2 hc1 hc2
  exact ⟨by have := hS.1; omega, fun q h1 h2 => (ho q (Nat.lt_of_lt_of_le h1 hS.1)).trans (hS.2.1 q h1 h2)⟩
/-! methods with handlers, called from the law -/
def wsW (M : pM) (hh : List (Nat × Nat × Nat × Nat)) : List Cond := .codeWith M.1 M.2.1 M.2.2.1 M.2.2.2 hh :: gtbl
def PMW (G : pG) (M : pM) (hh : List (Nat × Nat × Nat × Nat)) (d mc ms : Nat) (as : List Value) (w : pW) (Q : Option Value → pW → Prop) : Prop := Met (g_l G) M.1 (wsW M hh) (rmD d mc ms) (PC0 G as w) (QC G Q) mc ms (g_A G)
theorem PMW_of {G : pG} {M : pM} {hh : List (Nat × Nat × Nat × Nat)} {d mc ms : Nat} {as : List Value} {w : pW} {Q : Option Value → pW → Prop} (hy : plainName M.1.cls = true) (hlen : (lg_sl as).length ≤ M.2.2.1) (kk : PW G M (rmD d mc ms) (QM G Q mc ms) 0 0 (0, lv_args 0 as, [], w)) : PMW G M hh d mc ms as w Q := by
  refine va_MetW (cc := M.2.1) (maxL := M.2.2.1) (ret := M.2.2.2) (hh := hh) hy rfl ?_
  intro p e s m args below meth c s₁ B hml hv
  obtain ⟨rfl, hH, hK, hX⟩ := hv
  have hts := atoms_spec (ws := wsW M hh) B.pre
  have hl := lv_entry (as.map (tv (g_f G))) (n := M.2.2.1) (by rw [sl_tv]; exact hlen)
  rw [lg_entry_eq]
  rw [args_tv] at hl
  exact kk p e s m _ below meth c ⟨B.exec, B.bytes, hml, B.returns, B.notSynchronized, (name_of_methodNamed B.named B.method).1, findClass_of_methodNamed B.named, fun w hw => hts w (List.mem_cons_of_mem _ hw), hK, hX, by rw [hH.1]; exact Nat.le_add_right _ _, TB_of B⟩ s.heap [] _ hl hH va_S.rf
section PWW
variable {G : pG} {M M2 : pM} {R : Room} {QF : List Frame → Array Value → State → State → Prop} {k n pc d2 mc2 ms2 na : Nat} {lv : List (Nat × Value)} {st as : List Value} {w : pW} {Q2 : Option Value → pW → Prop}
theorem P_callSW {index : Nat} {hh : List (Nat × Nat × Nat × Nat)} (d : decode M.2.1 pc = .ok (.invokestatic index, 3)) (hco : Cond.codeWith M2.1 M2.2.1 M2.2.2.1 M2.2.2.2 hh ∈ gtbl) (hini : Cond.initialized M2.1.cls ∈ gtbl) (hd : M2.1.cls ≠ "java/lang/invoke/MethodHandle" ∧ M2.1.cls ≠ "java/lang/invoke/VarHandle" ∧ (parseMethodDescriptor M2.1.desc).map (fun d => d.parameters.length) = some na) (hl : Cond.methodLink M.1.cls index M2.1 ∈ gtbl) (hst : Cond.static M2.1 ∈ gtbl) (hM : PMW G M2 hh d2 mc2 ms2 as w Q2) (hna : as.length = na) (hR : d2 + 1 ≤ R.frames ∧ 8 + (M2.2.2.1 + 11) + 60 * d2 ≤ R.locals) (hf : k + mc2 ≤ R.cells ∧ n + ms2 ≤ R.slots) (hcat : (st.map Value.category).sum ≤ 8)
    (kk : ∀ (r : Option Value) (w' : pW), Q2 r w' → PW G M R QF (k + mc2) (n + ms2) (pc + 3, lv, r.toList ++ st, w')) (st0 : List Value) (h0 : st0 = as.reverse ++ st) : PW G M R QF k n (pc, lv, st0, w) := by
  intro p e s m args below meth c hc H locs ls hl0 hH hS
  have hts := hc.2.2.2.2.2.2.2.1
  have hG : GoodIn gtbl (wsW M2 hh) := fun w h => (List.mem_cons.mp h).elim (fun e => by rw [e]; exact gtbl_self _ hco) (fun h => gtbl_self _ h)
  have cw : vx_CSW R s args M.1.cls index M2.1 M2.2.1 M2.2.2.1 M2.2.2.2 hh (wsW M2 hh) (rmD d2 mc2 ms2) mc2 ms2 na := by
    refine ⟨⟨rfl, rfl, hR.1, hR.2, pay_in hts hG, List.mem_cons_self⟩, hts _ hco, hts _ hini, ⟨hd.1, hd.2.1⟩, fun sig h => ?_, hts _ hl, hts _ hst⟩
    have h2 := hd.2.2
    rw [h] at h2
    exact (Option.some.inj h2).symm
  refine run_fin (rest := st.map (tv (g_f G))) (vx_runSW (As := as.map (tv (g_f G))) (n := na) ⟨hc.1, hc.2.1, hc.2.2.1, hc.2.2.2.2.2.2.1, hts⟩ hM cw ⟨PC0.blind, pre_c hc hH hS⟩ rfl (by simp [hna]) hl0.1 (by subst h0; simp [F0]) (room8 hcat) d hf) hS (fun r w' H1 locs1 hq hH1 hS1 => ?_)
  have := kk r w' hq p e s m args below meth c hc H1 locs1 ls hl0 hH1 hS1
  cases r <;> exact this
/-- a call that may throw, in a body with handlers: x takes E, those ahead of it don't; the handler stores what it caught in the local j, and goes on with the locals lv2 -/
theorem P_callVX {ci N index b : Nat} {T : u_T} {ty : Nat → FieldType} {fs : List Value} {QX : String → pW → Prop} {hh : List (Nat × Nat × Nat × Nat)} (d : decode M.2.1 pc = .ok (.invokevirtual index, 3)) (co : CalOK M2 na) (ok : COK ci M2.1.cls T N ty) (hw : w.2 b = .inr (ci, fs)) (hl : Cond.methodLink M.1.cls index M2.1 ∈ gtbl) (hin : Cond.instanceMethod M2.1 ∈ gtbl) (hse : Cond.selects M2.1.cls M2.1 M2.1 ∈ gtbl) (hM : XM G M2 d2 mc2 ms2 (.ref b :: as) w Q2 QX) (hna : as.length = na) (hR : d2 + 1 ≤ R.frames ∧ 8 + (M2.2.2.1 + 11) + 60 * d2 ≤ R.locals) (hf : k + mc2 ≤ R.cells ∧ n + ms2 ≤ R.slots) (hcat : (st.map Value.category).sum ≤ 8)
    (hcw : Cond.codeWith M.1 M.2.1 M.2.2.1 M.2.2.2 hh ∈ gtbl)
    (kx : ∀ (E : String) (w' : pW), QX E w' → ∃ (pre : List ExceptionTableEntry) (x : ExceptionTableEntry) (suf : List ExceptionTableEntry) (name : String) (j : Nat), tableOf hh = pre ++ x :: suf ∧ (∀ z ∈ pre, covers z pc = false ∨ (z.catchType ≠ 0 ∧ ∃ nm : String, Cond.classLink M.1.cls z.catchType nm ∈ gtbl ∧ ∀ U, XX G U U.heap → KX G U → va_Nc E nm U)) ∧ covers x pc = true ∧ x.catchType ≠ 0 ∧ Cond.classLink M.1.cls x.catchType name ∈ gtbl ∧ Cond.castable E name ∈ ntbl ∧ decode M.2.1 x.handlerPc = .ok (.astore j, 2) ∧ j < M.2.2.1 ∧ PW G M R QF (k + mc2) (n + ms2) (x.handlerPc + 2, [], [], w'))
    (kk : ∀ (r : Option Value) (w' : pW), Q2 r w' → PW G M R QF (k + mc2) (n + ms2) (pc + 3, lv, r.toList ++ st, w')) (st0 : List Value) (h0 : st0 = as.reverse ++ .ref b :: st) : PW G M R QF k n (pc, lv, st0, w) := by
  intro p e s m args below meth c hc H locs ls hl0 hH hS
  have hts := hc.2.2.2.2.2.2.2.1
  obtain ⟨g0, -, cellV, g1, g2, g3, -⟩ := pe_obj hc.2.2.2.2.2.2.2.2.2.1 hH ok.1 hw
  have hcls := (hc.2.2.2.2.2.2.2.2.1.1.1 ci _ ok.1).2
  have htb := hc.2.2.2.2.2.2.2.2.2.2.2.2 _ _ _ _ (hts _ hcw)
  have hr := vx_runV (e := e) (below := below) (meth := meth) (locs := locs) (cells := k) (slots := n) (rest := st.map (tv (g_f G))) (C := M2.1.cls) (b := g_f G b) (As := as.map (tv (g_f G))) (n := na) (g := F0 m pc ls (st0.map (tv (g_f G)))) ⟨hc.1, hc.2.1, hc.2.2.1, hc.2.2.2.2.2.2.1, hts⟩ hM ⟨callB_of (R := R) (rm := rmD d2 mc2 ms2) (own := M.1.cls) (index := index) na hts (wsM_in co.1) rfl rfl rfl (hts _ co.2.1) (hts _ hl) co.2.2 hR, hts _ hin, hts _ hse⟩ ⟨PC0.blind, ⟨cellV, g1, by rw [g3]; rfl, by rw [g2]; exact hcls.1⟩, pre_c (as := .ref b :: as) hc hH hS⟩ rfl (by simp [hna]) hl0.1 (by subst h0; simp [F0, tv]) (room8 hcat) d hf
  have back : ∀ {t T' : State} {st₀ : State} {L : List Loc} (h0 : st₀.heap = H) (hL : ∀ q ∈ L, g_A G q.base) (e1 : T'.heap = t.heap) (hF : va_F (g_A G) st₀ t), va_S (g_A G) s.heap T'.heap (locs ++ L) := fun h0 hL e1 hF => by
    obtain ⟨hz, hk⟩ := hF
    rw [h0] at hz hk
    exact ⟨Nat.le_trans hS.1 (by rw [e1]; exact hz), fun q h1 h2 => by rw [e1, hk q (Nat.lt_of_lt_of_le h1 hS.1) h2]; exact hS.2.1 q h1 h2, fun q hq => by
      rcases List.mem_append.mp hq with h | h
      · exact hS.2.2 q h
      · exact hL q h⟩
  intro T0 hT X
  rcases hr T0 hT X with ⟨v, st₀, t, T', L, h0, X', hL, e1, e2, ⟨⟨r, w', hv, hq, hH1, hK1⟩, hF⟩, stp⟩ | ⟨q, st₀, t, T', L, E, ce, h0, X', hL, e1, e2, ⟨⟨w', hq, hH1, hK1⟩, hF⟩, hce, hcv, hcl, stp⟩
  · cases hv
    have key := kk r w' hq p e s m args below meth c hc T'.heap (locs ++ L) ls hl0 (by rw [e1]; exact hH1) (back h0 hL e1 hF)
    have key2 : W p (g_l G) e R s m args below meth c T'.heap (locs ++ L) (k + mc2) (n + ms2) (QF below args s) (F0 m (pc + 3) ls ((r.map (tv (g_f G))).toList ++ st.map (tv (g_f G)))) := by cases r <;> exact key
    obtain ⟨t2, a1, b1⟩ := key2 T' rfl X'
    exact ⟨t2, stp t2 a1, b1⟩
  · obtain ⟨pre, x, suf, name, j, y1, y2, y3, y4, y5, y6, y7, y8, y9⟩ := kx E w' hq
    have hnc : ∀ z ∈ pre, covers z pc = false ∨ (z.catchType ≠ 0 ∧ ∃ nm : String, (Cond.classLink M.1.cls z.catchType nm).before args s = true ∧ va_Nc E nm s) := fun z hz => by
      rcases y2 z hz with h | ⟨h1, nm, h2, h3⟩
      · exact Or.inl h
      · exact Or.inr ⟨h1, nm, hts _ h2, h3 s hc.2.2.2.2.2.2.2.2.2.1 hc.2.2.2.2.2.2.2.2.1⟩
    have hk9 : vx_W p (g_l G) e R s m args below meth c T'.heap (locs ++ L) (k + mc2) (n + ms2) (QF below args s) (F0 m pc ls (st.map (tv (g_f G)))) q := by
      refine vx_catch (E := E) (ce := ce) hc.2.2.2.2.2.2.1 pre x suf (htb.trans y1) hnc y3 y4 (hts _ y5) (va_Nw.use rfl (hc.2.2.2.2.2.2.2.2.1.2.1 _ y6)) (by rw [e1]; exact hce) hcv hcl ?_
      refine lv_astore hc.1 hc.2.1 y7 hl0 y8 rfl (fun ls' hl' => ?_)
      exact y9 p e s m args below meth c hc T'.heap (locs ++ L) ls' ⟨hl'.1, hl'.2.1, fun q hq => by cases hq⟩ (by rw [e1]; exact hH1) (back h0 hL e1 hF)
    obtain ⟨t2, a1, b1⟩ := hk9 T' rfl X'
    exact ⟨t2, stp.trans a1, b1⟩
end PWW
