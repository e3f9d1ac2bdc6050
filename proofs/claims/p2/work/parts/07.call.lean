/-! calls, contracts, ends -/
def rmD (d mc ms : Nat) : Room := { frames := d, cells := mc, slots := ms, locals := 60 * d }
def QC (G : pG) (Q : Option Value → pW → Prop) : Array Value → State → Outcome → State → Prop := fun _ s o t => (∃ (r : Option Value) (w' : pW), o = .returned (r.map (tv (g_f G))) ∧ Q r w' ∧ HW G w' t.heap ∧ KX G t) ∧ va_F (g_A G) s t
def PC0 (G : pG) (as : List Value) (w : pW) : Array Value → State → Prop := fun v U => v = (as.map (tv (g_f G))).toArray ∧ HW G w U.heap ∧ KX G U ∧ XX G U U.heap
/-- from the world w, called with as, the method returns r, and the world is w' behind it, with Q r w'; d frames, at most mc new cells of ms slots -/
def PM (G : pG) (M : pM) (d mc ms : Nat) (as : List Value) (w : pW) (Q : Option Value → pW → Prop) : Prop := Met (g_l G) M.1 (wsM M) (rmD d mc ms) (PC0 G as w) (QC G Q) mc ms (g_A G)
def QM (G : pG) (Q : Option Value → pW → Prop) (mc ms : Nat) : List Frame → Array Value → State → State → Prop := fun below args s => MQ below (QC G Q) args s mc ms (g_A G)
theorem PC0.blind {G : pG} {as : List Value} {w : pW} : FrameBlind (PC0 G as w) := fun a U g mk h =>
  ⟨h.1, h.2.1, KX.moved (s := U) (U := U.calling g mk a) (State.WarmedH.refl U) h.2.2.1, XX.go (s := U) (U := U.calling g mk a) (Vm.Alike.refl U.vm) (fun _ _ _ => rfl) h.2.2.2⟩
theorem sl_tv (f : Nat → Nat) : ∀ as : List Value, (lg_sl (as.map (tv f))).length = (lg_sl as).length
  | [] => rfl
  | v :: as => by
    have ih := sl_tv f as
    unfold lg_sl at ih ⊢
    simp only [List.map_cons, List.flatMap_cons, List.length_append, ih, tv_cat]
    split <;> rfl
theorem args_tv (G : pG) : ∀ (i : Nat) (as : List Value), lv_args i (as.map (tv (g_f G))) = lt G (lv_args i as)
  | _, [] => rfl
  | i, v :: as => by
    simp only [List.map_cons, lv_args, tv_cat, args_tv G]
    rfl
theorem PM_of {G : pG} {M : pM} {d mc ms : Nat} {as : List Value} {w : pW} {Q : Option Value → pW → Prop} (hy : plainName M.1.cls = true) (hlen : (lg_sl as).length ≤ M.2.2.1) (kk : PW G M (rmD d mc ms) (QM G Q mc ms) 0 0 (0, lv_args 0 as, [], w)) : PM G M d mc ms as w Q := by
  refine Met.ofW (cc := M.2.1) (maxL := M.2.2.1) (ret := M.2.2.2) hy rfl ?_
  intro p e s m args below meth c s₁ B hml hv
  obtain ⟨rfl, hH, hK, hX⟩ := hv
  have hts := atoms_spec (ws := wsM M) B.pre
  have hl := lv_entry (as.map (tv (g_f G))) (n := M.2.2.1) (by rw [sl_tv]; exact hlen)
  rw [lg_entry_eq]
  rw [args_tv] at hl
  exact kk p e s m _ below meth c ⟨B.exec, B.bytes, hml, B.returns, B.notSynchronized, (name_of_methodNamed B.named B.method).1, findClass_of_methodNamed B.named, fun w hw => hts w (List.mem_cons_of_mem _ hw), hK, hX, by rw [hH.1]; exact Nat.le_add_right _ _, TB_of B⟩ s.heap [] _ hl hH va_S.rf
theorem PM.imp {G : pG} {M : pM} {d mc ms : Nat} {as : List Value} {w : pW} {Q Q' : Option Value → pW → Prop} (h : PM G M d mc ms as w Q) (hq : ∀ r w', Q r w' → Q' r w') : PM G M d mc ms as w Q' := by
  intro p e ha hc hk s m args below hf happ hP hx
  obtain ⟨k, o, h1, h2, h3, ⟨⟨r, w', e1, e2, e3⟩, e4⟩, h5⟩ := h p e ha hc hk s m args below hf happ hP hx
  exact ⟨k, o, h1, h2, h3, ⟨⟨r, w', e1, hq r w' e2, e3⟩, e4⟩, h5⟩
/-- what every call of a method wants of the tables -/
def CalOK (M : pM) (na : Nat) : Prop := Cond.code M.1 M.2.1 M.2.2.1 M.2.2.2 ∈ gtbl ∧ Cond.initialized M.1.cls ∈ gtbl ∧ M.1.cls ≠ "java/lang/invoke/MethodHandle" ∧ M.1.cls ≠ "java/lang/invoke/VarHandle" ∧ (parseMethodDescriptor M.1.desc).map (fun d => d.parameters.length) = some na
section PWC
variable {G : pG} {M M2 : pM} {R : Room} {QF : List Frame → Array Value → State → State → Prop} {k n pc d2 mc2 ms2 na : Nat} {lv : List (Nat × Value)} {st as : List Value} {w : pW} {Q2 : Option Value → pW → Prop}
theorem run_fin {p : Program} {e : Env} {s : State} {m : MethodId} {args a : Array Value} {below : List Frame} {meth : Method} {c : Code} {H : Heap} {locs : List Loc} {ls : Array Slot} {rest st0 : List Value} {QQ : State → Prop}
    (hr : va_Run p (g_l G) e R s m args below meth c H locs k n mc2 ms2 (F0 m pc ls st0) rest (QC G Q2 a) (g_A G)) (hS : va_S (g_A G) s.heap H locs)
    (kk : ∀ (r : Option Value) (w' : pW) (H1 : Heap) (locs1 : List Loc), Q2 r w' → HW G w' H1 → va_S (g_A G) s.heap H1 locs1 → W p (g_l G) e R s m args below meth c H1 locs1 (k + mc2) (n + ms2) QQ (F0 m (pc + 3) ls ((r.map (tv (g_f G))).toList ++ rest))) : W p (g_l G) e R s m args below meth c H locs k n QQ (F0 m pc ls st0) := by
  intro T hT X
  obtain ⟨v, st₀, t, T', L, h0, X', hL, e1, e2, ⟨⟨r, w', hv, hq, hH, hK⟩, hz, hk⟩, st⟩ := hr T hT X
  cases hv
  rw [h0] at hz hk
  obtain ⟨t2, a1, b1⟩ := kk r w' T'.heap (locs ++ L) hq (by rw [e1]; exact hH) ⟨Nat.le_trans hS.1 (by rw [e1]; exact hz), fun q h1 h2 => by rw [e1, hk q (Nat.lt_of_lt_of_le h1 hS.1) h2]; exact hS.2.1 q h1 h2, fun q hq => by
      rcases List.mem_append.mp hq with h | h
      · exact hS.2.2 q h
      · exact hL q h⟩ T' rfl X'
  exact ⟨t2, st t2 a1, b1⟩
theorem pre_c {p : Program} {s : State} {m : MethodId} {args : Array Value} {meth : Method} {c : Code} {H : Heap} {locs : List Loc} (hc : Ctx G M p s m args meth c) (hH : HW G w H) (hS : va_S (g_A G) s.heap H locs) : ∀ U : State, U.heap = H → s.WarmedH U.vm → PC0 G as w (as.map (tv (g_f G))).toArray U := fun U hU hW =>
  ⟨rfl, by rw [hU]; exact hH, hc.2.2.2.2.2.2.2.2.1.moved hW, by rw [hU]; exact hc.2.2.2.2.2.2.2.2.2.1.go hW.alike hS.2.1⟩
theorem sum_tv (f : Nat → Nat) (st : List Value) : ((st.map (tv f)).map fun v => v.category) = st.map Value.category := by
  rw [List.map_map]
  exact List.map_congr_left fun v _ => tv_cat f v
theorem room8 {m : MethodId} {pc : Nat} {ls : Array Slot} {s0 : List Value} {f : Nat → Nat} (h : (st.map Value.category).sum ≤ 8) : 2 * (F0 m pc ls s0).monitorRoom + ((st.map (tv f)).map fun v => v.category).sum ≤ 8 := by
  rw [sum_tv]
  show 2 * 0 + _ ≤ 8
  omega
theorem wsM_in (hco : Cond.code M2.1 M2.2.1 M2.2.2.1 M2.2.2.2 ∈ gtbl) : GoodIn gtbl (wsM M2) := fun w h => (List.mem_cons.mp h).elim (fun e => by rw [e]; exact gtbl_self _ hco) (fun h => gtbl_self _ h)
theorem P_callS {index : Nat} (d : decode M.2.1 pc = .ok (.invokestatic index, 3)) (co : CalOK M2 na) (hl : Cond.methodLink M.1.cls index M2.1 ∈ gtbl) (hst : Cond.static M2.1 ∈ gtbl) (hM : PM G M2 d2 mc2 ms2 as w Q2) (hna : as.length = na) (hR : d2 + 1 ≤ R.frames ∧ 8 + (M2.2.2.1 + 11) + 60 * d2 ≤ R.locals) (hf : k + mc2 ≤ R.cells ∧ n + ms2 ≤ R.slots) (hcat : (st.map Value.category).sum ≤ 8)
    (kk : ∀ (r : Option Value) (w' : pW), Q2 r w' → PW G M R QF (k + mc2) (n + ms2) (pc + 3, lv, r.toList ++ st, w')) (st0 : List Value) (h0 : st0 = as.reverse ++ st) : PW G M R QF k n (pc, lv, st0, w) := by
  intro p e s m args below meth c hc H locs ls hl0 hH hS
  have hts := hc.2.2.2.2.2.2.2.1
  refine run_fin (rest := st.map (tv (g_f G))) (va_runS (As := as.map (tv (g_f G))) (n := na) ⟨hc.1, hc.2.1, hc.2.2.1, hc.2.2.2.2.2.2.1, hts⟩ hM ⟨callB_of na hts (wsM_in co.1) rfl rfl rfl (hts _ co.2.1) (hts _ hl) co.2.2 hR, hts _ hst⟩ ⟨PC0.blind, pre_c hc hH hS⟩ rfl (by simp [hna]) hl0.1 (by subst h0; simp [F0]) (room8 hcat) d hf) hS (fun r w' H1 locs1 hq hH1 hS1 => ?_)
  have := kk r w' hq p e s m args below meth c hc H1 locs1 ls hl0 hH1 hS1
  cases r <;> exact this
/-- the outer cells are as they were -/
theorem PW.ext (kk : (∀ j, w.2 (1000000 + j) = g_w G j) → PW G M R QF k n (pc, lv, st, w)) : PW G M R QF k n (pc, lv, st, w) :=
  fun p e s m args below meth c hc H locs ls hl hH hS => kk hH.2.2.2.2 p e s m args below meth c hc H locs ls hl hH hS
theorem P_callV {ci N index b : Nat} {T : u_T} {ty : Nat → FieldType} {fs : List Value} (d : decode M.2.1 pc = .ok (.invokevirtual index, 3)) (co : CalOK M2 na) (ok : COK ci M2.1.cls T N ty) (hw : w.2 b = .inr (ci, fs)) (hl : Cond.methodLink M.1.cls index M2.1 ∈ gtbl) (hin : Cond.instanceMethod M2.1 ∈ gtbl) (hse : Cond.selects M2.1.cls M2.1 M2.1 ∈ gtbl) (hM : PM G M2 d2 mc2 ms2 (.ref b :: as) w Q2) (hna : as.length = na) (hR : d2 + 1 ≤ R.frames ∧ 8 + (M2.2.2.1 + 11) + 60 * d2 ≤ R.locals) (hf : k + mc2 ≤ R.cells ∧ n + ms2 ≤ R.slots) (hcat : (st.map Value.category).sum ≤ 8)
    (kk : ∀ (r : Option Value) (w' : pW), Q2 r w' → PW G M R QF (k + mc2) (n + ms2) (pc + 3, lv, r.toList ++ st, w')) (st0 : List Value) (h0 : st0 = as.reverse ++ .ref b :: st) : PW G M R QF k n (pc, lv, st0, w) := by
  intro p e s m args below meth c hc H locs ls hl0 hH hS
  have hts := hc.2.2.2.2.2.2.2.1
  obtain ⟨g0, -, cellV, g1, g2, g3, -⟩ := pe_obj hc.2.2.2.2.2.2.2.2.2.1 hH ok.1 hw
  have hcls := (hc.2.2.2.2.2.2.2.2.1.1.1 ci _ ok.1).2
  refine run_fin (rest := st.map (tv (g_f G))) (va_runV (C := M2.1.cls) (b := g_f G b) (As := as.map (tv (g_f G))) (n := na) ⟨hc.1, hc.2.1, hc.2.2.1, hc.2.2.2.2.2.2.1, hts⟩ hM ⟨callB_of na hts (wsM_in co.1) rfl rfl rfl (hts _ co.2.1) (hts _ hl) co.2.2 hR, hts _ hin, hts _ hse⟩ ⟨PC0.blind, ⟨cellV, g1, by rw [g3]; rfl, by rw [g2]; exact hcls.1⟩, pre_c (as := .ref b :: as) hc hH hS⟩ rfl (by simp [hna]) hl0.1 (by subst h0; simp [F0, tv]) (room8 hcat) d hf) hS (fun r w' H1 locs1 hq hH1 hS1 => ?_)
  have := kk r w' hq p e s m args below meth c hc H1 locs1 ls hl0 hH1 hS1
  cases r <;> exact this
/-- a constructor, linked in the class itself -/
theorem P_callI {index b : Nat} (d : decode M.2.1 pc = .ok (.invokespecial index, 3)) (co : CalOK M2 na) (hret : M2.2.2.2 = none) (hnm : M2.1.name = "<init>") (hl : Cond.methodLink M.1.cls index M2.1 ∈ gtbl) (hin : Cond.instanceMethod M2.1 ∈ gtbl) (hM : PM G M2 d2 mc2 ms2 (.ref b :: as) w Q2) (hna : as.length = na) (hR : d2 + 1 ≤ R.frames ∧ 8 + (M2.2.2.1 + 11) + 60 * d2 ≤ R.locals) (hf : k + mc2 ≤ R.cells ∧ n + ms2 ≤ R.slots) (hcat : (st.map Value.category).sum ≤ 8)
    (kk : ∀ (r : Option Value) (w' : pW), Q2 r w' → PW G M R QF (k + mc2) (n + ms2) (pc + 3, lv, r.toList ++ st, w')) (st0 : List Value) (h0 : st0 = as.reverse ++ .ref b :: st) : PW G M R QF k n (pc, lv, st0, w) := by
  intro p e s m args below meth c hc H locs ls hl0 hH hS
  have hts := hc.2.2.2.2.2.2.2.1
  have cb : CallB R s args M.1.cls index M2.1 M2.2.1 M2.2.2.1 none (wsM M2) (rmD d2 mc2 ms2) mc2 ms2 na := by
    have h := callB_of (R := R) (rm := rmD d2 mc2 ms2) (own := M.1.cls) (index := index) na hts (wsM_in co.1) rfl rfl rfl (hts _ co.2.1) (hts _ hl) co.2.2 hR
    rw [hret] at h
    exact h
  refine run_fin (rest := st.map (tv (g_f G))) (va_runI (b := g_f G b) (As := as.map (tv (g_f G))) (n := na) ⟨hc.1, hc.2.1, hc.2.2.1, hc.2.2.2.2.2.2.1, hts⟩ hM ⟨cb, hnm, hts _ hin⟩ ⟨PC0.blind, pre_c (as := .ref b :: as) hc hH hS⟩ rfl (by simp [hna]) hl0.1 (by subst h0; simp [F0, tv]) (room8 hcat) d hf) hS (fun r w' H1 locs1 hq hH1 hS1 => ?_)
  have := kk r w' hq p e s m args below meth c hc H1 locs1 ls hl0 hH1 hS1
  cases r <;> exact this
/-- a private constructor of a nest mate -/
theorem P_callIN {index b : Nat} {host : String} (d : decode M.2.1 pc = .ok (.invokespecial index, 3)) (co : CalOK M2 na) (hret : M2.2.2.2 = none) (hnm : M2.1.name = "<init>") (hl : Cond.methodLinkNest M.1.cls index M2.1 host ∈ ntbl) (hin : Cond.instanceMethod M2.1 ∈ gtbl) (hM : PM G M2 d2 mc2 ms2 (.ref b :: as) w Q2) (hna : as.length = na) (hR : d2 + 1 ≤ R.frames ∧ 8 + (M2.2.2.1 + 11) + 60 * d2 ≤ R.locals) (hf : k + mc2 ≤ R.cells ∧ n + ms2 ≤ R.slots) (hcat : (st.map Value.category).sum ≤ 8)
    (kk : ∀ (r : Option Value) (w' : pW), Q2 r w' → PW G M R QF (k + mc2) (n + ms2) (pc + 3, lv, r.toList ++ st, w')) (st0 : List Value) (h0 : st0 = as.reverse ++ .ref b :: st) : PW G M R QF k n (pc, lv, st0, w) := by
  intro p e s m args below meth c hc H locs ls hl0 hH hS
  have hts := hc.2.2.2.2.2.2.2.1
  have cb : va_CN R s args M.1.cls index M2.1 host M2.2.1 M2.2.2.1 none (wsM M2) (rmD d2 mc2 ms2) mc2 ms2 na := by
    have h := va_cnB (R := R) (rm := rmD d2 mc2 ms2) (own := M.1.cls) (index := index) na hts (wsM_in co.1) rfl rfl rfl (hc.2.2.2.2.2.2.2.2.1.2.1 _ hl) (hts _ co.2.1) co.2.2 hR
    rw [hret] at h
    exact h
  refine run_fin (rest := st.map (tv (g_f G))) (va_runIN (b := g_f G b) (As := as.map (tv (g_f G))) (n := na) ⟨hc.1, hc.2.1, hc.2.2.1, hc.2.2.2.2.2.2.1, hts⟩ hM ⟨cb, hnm, hts _ hin⟩ ⟨PC0.blind, pre_c (as := .ref b :: as) hc hH hS⟩ rfl (by simp [hna]) hl0.1 (by subst h0; simp [F0, tv]) (room8 hcat) d hf) hS (fun r w' H1 locs1 hq hH1 hS1 => ?_)
  have := kk r w' hq p e s m args below meth c hc H1 locs1 ls hl0 hH1 hS1
  cases r <;> exact this
theorem P_objInit {index b : Nat} (d : decode M.2.1 pc = .ok (.invokespecial index, 3)) (hl : Cond.methodLink M.1.cls index Lib.objectInit ∈ gtbl) (hin : Cond.instanceMethod Lib.objectInit ∈ gtbl) (hco : Cond.code Lib.objectInit ⟨#[0xb1]⟩ 1 none ∈ gtbl) (hR : 1 ≤ R.frames ∧ 20 ≤ R.locals) (hcat : (st.map Value.category).sum ≤ 8)
    (kk : PW G M R QF k n (pc + 3, lv, st, w)) : PW G M R QF k n (pc, lv, .ref b :: st, w) := by
  intro p e s m args below meth c hc H locs ls hl0 hH hS
  have hts := hc.2.2.2.2.2.2.2.1
  have h8 := room8 (m := m) (pc := pc) (ls := ls) (s0 := []) (f := g_f G) hcat
  exact W.objInit hc.1 hc.2.1 hc.2.2.2.2.2.2.1 (hts _ hl) (hts _ hin) (hts _ hco) rfl (by rw [hc.2.2.1]; exact hl0.1) rfl d hR.1 (by show 2 * (F0 m pc ls []).monitorRoom + _ + 12 ≤ _; omega) (kk p e s m args below meth c hc H locs ls hl0 hH hS)
/-- a constant static -/
theorem P_gets {index : Nat} (q : String × String × String × Nat) (hq : q ∈ sts) (d : decode M.2.1 pc = .ok (.getstatic index, 3)) (hl : Cond.fieldLink M.1.cls index q.1 q.2.1 q.2.2.1 ∈ gtbl)
    (kk : PW G M R QF k n (pc + 3, lv, .ref (1000000 + q.2.2.2) :: st, w)) : PW G M R QF k n (pc, lv, st, w) := by
  intro p e s m args below meth c hc H locs ls hl0 hH hS
  have h1 := kk p e s m args below meth c hc H locs ls hl0 hH hS
  have hf : g_f G (1000000 + q.2.2.2) = g_x G q.2.2.2 := (g_f_ext (Nat.le_add_right _ _)).trans (congrArg (g_x G) (Nat.add_sub_cancel_left ..))
  refine va_gets hc.1 hc.2.1 (hc.2.2.2.2.2.2.2.2.2.1.2.2.1 q hq) hS hc.2.2.2.2.2.2.1 (hc.2.2.2.2.2.2.2.1 _ hl) (fun _ h => h) d ?_
  rw [← hf]
  exact h1
/-- a static that is no reference -/
theorem P_getv {index : Nat} (q : String × String × String × Value) (hq : q ∈ stv) (hv : ∀ f, tv f q.2.2.2 = q.2.2.2) (d : decode M.2.1 pc = .ok (.getstatic index, 3)) (hl : Cond.fieldLink M.1.cls index q.1 q.2.1 q.2.2.1 ∈ gtbl)
    (kk : PW G M R QF k n (pc + 3, lv, q.2.2.2 :: st, w)) : PW G M R QF k n (pc, lv, st, w) := by
  intro p e s m args below meth c hc H locs ls hl0 hH hS
  have h1 := kk p e s m args below meth c hc H locs ls hl0 hH hS
  refine va_gets hc.1 hc.2.1 (hc.2.2.2.2.2.2.2.2.2.1.2.1 q hq) hS hc.2.2.2.2.2.2.1 (hc.2.2.2.2.2.2.2.1 _ hl) (fun _ h => h) d ?_
  rw [← hv (g_f G)]
  exact h1
theorem P_getsN {index : Nat} {host : String} (q : String × String × String × Nat) (hq : q ∈ sts) (d : decode M.2.1 pc = .ok (.getstatic index, 3)) (hl : Cond.fieldLinkNest M.1.cls index q.1 q.2.1 q.2.2.1 host ∈ ntbl)
    (kk : PW G M R QF k n (pc + 3, lv, .ref (1000000 + q.2.2.2) :: st, w)) : PW G M R QF k n (pc, lv, st, w) := by
  intro p e s m args below meth c hc H locs ls hl0 hH hS
  have h1 := kk p e s m args below meth c hc H locs ls hl0 hH hS
  have hf : g_f G (1000000 + q.2.2.2) = g_x G q.2.2.2 := (g_f_ext (Nat.le_add_right _ _)).trans (congrArg (g_x G) (Nat.add_sub_cancel_left ..))
  refine va_getsN hc.1 hc.2.1 (hc.2.2.2.2.2.2.2.2.2.1.2.2.1 q hq) hS hc.2.2.2.2.2.2.1 (va_Nw.use rfl (hc.2.2.2.2.2.2.2.2.1.2.1 _ hl)) (fun _ h => h) d ?_
  rw [← hf]
  exact h1
end PWC
/-! ends -/
section PWE
variable {G : pG} {M : pM} {R : Room} {k n pc mc ms : Nat} {lv : List (Nat × Value)} {w : pW} {Q : Option Value → pW → Prop}
theorem end_q {p : Program} {s : State} {m : MethodId} {args : Array Value} {meth : Method} {c : Code} {H : Heap} {locs : List Loc} (hc : Ctx G M p s m args meth c) (hH : HW G w H) (hS : va_S (g_A G) s.heap H locs) {r : Option Value} {v : Option Value} (hv : r.map (tv (g_f G)) = v) (hq : Q r w) : ∀ t : State, t.heap = H → s.WarmedH t.vm → QC G Q args s (.returned v) t := fun t ht hW =>
  ⟨⟨r, w, by rw [hv], hq, by rw [ht]; exact hH, hc.2.2.2.2.2.2.2.2.1.moved hW⟩, hS.F ht⟩
theorem P_iret {v : Int32} (d : decode M.2.1 pc = .ok (.ireturn, 1)) (hr : M.2.2.2 = some .int) (h1 : k ≤ mc) (h2 : n ≤ ms) (hq : Q (some (.int v)) w) : PW G M R (QM G Q mc ms) k n (pc, lv, [.int v], w) := by
  intro p e s m args below meth c hc H locs ls hl0 hH hS
  have hlk := hc.2.2.2.2.1
  exact W.widen h1 h2 (W.iret hc.1 hc.2.1 (hc.2.2.2.1.trans hr) (end_q (r := some (.int v)) hc hH hS rfl hq) hS.2.2 d)
theorem P_zret {v : Int32} {t : FieldType} (d : decode M.2.1 pc = .ok (.ireturn, 1)) (hr : M.2.2.2 = some t) (hn : narrow t (.int v) = .int v) (h1 : k ≤ mc) (h2 : n ≤ ms) (hq : Q (some (.int v)) w) : PW G M R (QM G Q mc ms) k n (pc, lv, [.int v], w) := by
  intro p e s m args below meth c hc H locs ls hl0 hH hS
  have hlk := hc.2.2.2.2.1
  exact W.widen h1 h2 (W.zret hc.1 hc.2.1 (hc.2.2.2.1.trans hr) hn (end_q (r := some (.int v)) hc hH hS rfl hq) hS.2.2 d)
theorem P_lret {v : Int64} (d : decode M.2.1 pc = .ok (.lreturn, 1)) (hr : M.2.2.2 = some .long) (h1 : k ≤ mc) (h2 : n ≤ ms) (hq : Q (some (.long v)) w) : PW G M R (QM G Q mc ms) k n (pc, lv, [.long v], w) := by
  intro p e s m args below meth c hc H locs ls hl0 hH hS
  have hlk := hc.2.2.2.2.1
  exact W.widen h1 h2 (W.lret hc.1 hc.2.1 (hc.2.2.2.1.trans hr) (end_q (r := some (.long v)) hc hH hS rfl hq) hS.2.2 d)
theorem P_vret (d : decode M.2.1 pc = .ok (.return_, 1)) (hr : M.2.2.2 = none) (h1 : k ≤ mc) (h2 : n ≤ ms) (hq : Q none w) : PW G M R (QM G Q mc ms) k n (pc, lv, [], w) := by
  intro p e s m args below meth c hc H locs ls hl0 hH hS
  have hlk := hc.2.2.2.2.1
  exact W.widen h1 h2 (W.vret hc.1 hc.2.1 (hc.2.2.2.1.trans hr) (end_q (r := none) hc hH hS rfl hq) hS.2.2 d)
theorem P_aret {v : Nat} {t : FieldType} (d : decode M.2.1 pc = .ok (.areturn, 1)) (hr : M.2.2.2 = some t) (ht : (∃ n, t = .object n) ∨ ∃ u, t = .array u) (h1 : k ≤ mc) (h2 : n ≤ ms) (hq : Q (some (.ref v)) w) : PW G M R (QM G Q mc ms) k n (pc, lv, [.ref v], w) := by
  intro p e s m args below meth c hc H locs ls hl0 hH hS
  have hlk := hc.2.2.2.2.1
  exact W.widen h1 h2 (W.aret hc.1 hc.2.1 (hc.2.2.2.1.trans hr) ht (Or.inr ⟨_, rfl⟩) (end_q (r := some (.ref v)) hc hH hS rfl hq) hS.2.2 d)
end PWE
