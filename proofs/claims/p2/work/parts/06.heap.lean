/-! fields, arrays, new things -/
def COK (ci : Nat) (C : String) (T : u_T) (N : Nat) (ty : Nat → FieldType) : Prop :=
  classes[ci]? = some (C, T, N) ∧ (∀ w ∈ u_ws C T N, w ∈ gtbl) ∧ (∀ k, k < N → parseFieldDescriptor (T k).2.2.1 = some (ty k)) ∧ ∀ a, a < N → ∀ b, b < N → a ≠ b → (T a).2.1 ≠ (T b).2.1
theorem va_P1 {D : va_G} {cl : List vw_C} {q : Nat × va_E} {H : Heap} (h : va_at D cl q H) : va_P D cl [q] H := by
  intro k x hx
  have hz : k < 1 := (List.getElem?_eq_some_iff.mp hx).1
  rw [show k = 0 by omega] at hx
  cases hx
  exact h
/-- an int that is an index -/
def ix (i : Int32) (j : Nat) : Prop := i.toNatClampNeg = j ∧ ¬ i < 0
theorem ix_nI {j : Nat} (h : j < 2 ^ 31) : ix (nI j) j := ⟨nI_clamp h, nI_pos h⟩
theorem ix_in {i : Int32} {j N n : Nat} (h : ix i j) (hj : j < n) (hn : n ≤ N) : ¬ (i < 0 ∨ N ≤ i.toNatClampNeg) := by
  rintro (q | q)
  · exact h.2 q
  · rw [h.1] at q; omega
section PWH
variable {G : pG} {M : pM} {R : Room} {QF : List Frame → Array Value → State → State → Prop} {k n pc : Nat} {lv : List (Nat × Value)} {st : List Value} {w : pW}
theorem P_getf {ci N i index r : Nat} {C : String} {T : u_T} {ty : Nat → FieldType} {fs : List Value} {v : Value} (d : decode M.2.1 pc = .ok (.getfield index, 3)) (ok : COK ci C T N ty) (hk : i < N) (hlink : Cond.fieldLink M.1.cls index (T i).1 (T i).2.1 (T i).2.2.1 ∈ gtbl) (hw : w.2 r = .inr (ci, fs)) (hv : fs[i]? = some v)
    (kk : PW G M R QF k n (pc + 3, lv, v :: st, w)) : PW G M R QF k n (pc, lv, .ref r :: st, w) := by
  intro p e s m args below meth c hc H locs ls hl hH hS
  obtain ⟨h1, h2, h3⟩ := pe_obj hc.2.2.2.2.2.2.2.2.2.1 hH ok.1 hw
  exact va_get (C := C) (T := T) (N := N) hc.1 hc.2.1 hc.2.2.2.2.2.2.2.1 ok.2.1 hc.2.2.2.2.2.2.1 hc.2.2.2.2.2.2.2.2.1.1 (va_P1 (q := (g_f G r, .inr (ci, fs.map (tv (g_f G))))) ⟨_, ok.1, h3⟩) 0 rfl ok.1 i hk (hc.2.2.2.2.2.2.2.1 _ hlink) (fun _ h => h) (v := tv (g_f G) v) (by rw [List.getElem?_map, hv]; rfl) d (kk p e s m args below meth c hc H locs ls hl hH hS)
theorem P_getfN {ci N i index r : Nat} {C host : String} {T : u_T} {ty : Nat → FieldType} {fs : List Value} {v : Value} (d : decode M.2.1 pc = .ok (.getfield index, 3)) (ok : COK ci C T N ty) (hk : i < N) (hlink : Cond.fieldLinkNest M.1.cls index (T i).1 (T i).2.1 (T i).2.2.1 host ∈ ntbl) (hw : w.2 r = .inr (ci, fs)) (hv : fs[i]? = some v)
    (kk : PW G M R QF k n (pc + 3, lv, v :: st, w)) : PW G M R QF k n (pc, lv, .ref r :: st, w) := by
  intro p e s m args below meth c hc H locs ls hl hH hS
  obtain ⟨h1, h2, h3⟩ := pe_obj hc.2.2.2.2.2.2.2.2.2.1 hH ok.1 hw
  exact va_getN (C := C) (T := T) (N := N) hc.1 hc.2.1 hc.2.2.2.2.2.2.2.1 ok.2.1 hc.2.2.2.2.2.2.1 hc.2.2.2.2.2.2.2.2.1.1 (va_P1 (q := (g_f G r, .inr (ci, fs.map (tv (g_f G))))) ⟨_, ok.1, h3⟩) 0 rfl ok.1 i hk (va_Nw.use rfl (hc.2.2.2.2.2.2.2.2.1.2.1 _ hlink)) (fun _ h => h) (v := tv (g_f G) v) (by rw [List.getElem?_map, hv]; rfl) d (kk p e s m args below meth c hc H locs ls hl hH hS)
/-- what a store in a field makes of the world -/
theorem put_w {args : Array Value} {ci N i r : Nat} {C : String} {T : u_T} {ty : Nat → FieldType} {fs : List Value} {v : Value} {H H1 : Heap} {s : State} {cell : Cell} (ok : COK ci C T N ty) (hts : ∀ w ∈ gtbl, w.before args s = true) (hK : va_K (g_D G) classes (tysG G) s) (hk : i < N) (hH : HW G w H) (hr : r < w.1) (hl : fs.length = N) (q2 : cell.cls = (g_D G).1 ci) (q3 : cell.vm = .none) (q4 : ∀ j, j < N → cell.slots[(g_D G).2 ci j]? = some (vp_V (fs.map (tv (g_f G))) j))
    (e1 : H1[g_f G r]? = some (cell.setSlot ((g_D G).2 ci i) (tv (g_f G) v))) (e2 : H1.size = H.size) (e3 : ∀ q : Nat, q ≠ g_f G r → H1[q]? = H[q]?) : HW G (w.1, wu w.2 r (.inr (ci, fs.set i v))) H1 := by
  have hap := va_apart (own := C) hts ok.2.1 ty ok.2.2.1 ok.2.2.2 hK ok.1
  refine hH.set hr (Or.inr ⟨_, ok.1, by simp [hl], ?_⟩) e2 e3
  refine t_OB.to (V := updV (vp_V (fs.map (tv (g_f G)))) i (tv (g_f G) v)) ⟨_, e1, q2, q3, t_set q4 hap hk _⟩ (fun j _ => ?_)
  rw [List.map_set]
  exact vp_updV_set (by simp [hl]; exact hk) _ j
theorem P_put {ci N i index r : Nat} {C : String} {T : u_T} {ty : Nat → FieldType} {fs : List Value} {v : Value} (d : decode M.2.1 pc = .ok (.putfield index, 3)) (ok : COK ci C T N ty) (hk : i < N) (hfin : (T i).2.2.2 = false) (hlink : Cond.fieldLink M.1.cls index (T i).1 (T i).2.1 (T i).2.2.1 ∈ gtbl) (hw : w.2 r = .inr (ci, fs)) (hn : ∀ f, narrow (ty i) (tv f v) = tv f v) (hfit : ∀ f, fits (ty i) (tv f v) = true)
    (kk : PW G M R QF k n (pc + 3, lv, st, (w.1, wu w.2 r (.inr (ci, fs.set i v))))) : PW G M R QF k n (pc, lv, v :: .ref r :: st, w) := by
  intro p e s m args below meth c hc H locs ls hl hH hS
  obtain ⟨h1, h2, h3⟩ := pe_obj hc.2.2.2.2.2.2.2.2.2.1 hH ok.1 hw
  have hts := hc.2.2.2.2.2.2.2.1
  have hown := hc.2.2.2.2.2.2.1
  have hK := hc.2.2.2.2.2.2.2.2.1.1
  obtain ⟨cell, q1, q2, q3, q4⟩ := h3
  obtain ⟨hSl, hfc, kC, hkC, hkind⟩ := hK.1 ci _ ok.1
  obtain ⟨cf, kf, fi, f, hi, hsl⟩ := hSl i hk
  have hlay := hts _ (ok.2.1 _ (u_in_lay hk))
  unfold u_lay at hlay
  rw [if_neg (by rw [hfin]; decide)] at hlay
  have hst := (u_facts hfc hkC (u_lays hts ok.2.1 hk) hi).1
  have h6 := u_store hfc hkC hkind hlay hi (ok.2.2.1 i hk) (hn (g_f G)) (hfit (g_f G))
  refine W.putK hc.1 hc.2.1 (f := f) ⟨hown, hts _ hlink, ⟨_, _, _, hi⟩, hst⟩ (by rw [q2]; exact h6) q1 q3 (by rw [hsl]; exact k2_hasslot (q4 i hk)) rfl rfl d fun H' e1 e2 e3 => ?_
  rw [hsl] at e1 ⊢
  exact kk p e s m args below meth c hc H' _ ls hl (put_w ok hts hK hk hH h1 h2 q2 q3 q4 e1 e2 e3) (hS.put e2 e3 (g_A_f (Nat.lt_of_lt_of_le h1 hH.2.1)))
theorem P_putN {ci N i index r : Nat} {C host : String} {T : u_T} {ty : Nat → FieldType} {fs : List Value} {v : Value} (d : decode M.2.1 pc = .ok (.putfield index, 3)) (ok : COK ci C T N ty) (hk : i < N) (hfin : (T i).2.2.2 = false) (hlink : Cond.fieldLinkNest M.1.cls index (T i).1 (T i).2.1 (T i).2.2.1 host ∈ ntbl) (hw : w.2 r = .inr (ci, fs)) (hn : ∀ f, narrow (ty i) (tv f v) = tv f v) (hfit : ∀ f, fits (ty i) (tv f v) = true)
    (kk : PW G M R QF k n (pc + 3, lv, st, (w.1, wu w.2 r (.inr (ci, fs.set i v))))) : PW G M R QF k n (pc, lv, v :: .ref r :: st, w) := by
  intro p e s m args below meth c hc H locs ls hl hH hS
  obtain ⟨h1, h2, h3⟩ := pe_obj hc.2.2.2.2.2.2.2.2.2.1 hH ok.1 hw
  have hts := hc.2.2.2.2.2.2.2.1
  have hown := hc.2.2.2.2.2.2.1
  have hK := hc.2.2.2.2.2.2.2.2.1.1
  obtain ⟨cell, q1, q2, q3, q4⟩ := h3
  obtain ⟨hSl, hfc, kC, hkC, hkind⟩ := hK.1 ci _ ok.1
  obtain ⟨cf, kf, fi, f, hi, hsl⟩ := hSl i hk
  have hlay := hts _ (ok.2.1 _ (u_in_lay hk))
  unfold u_lay at hlay
  rw [if_neg (by rw [hfin]; decide)] at hlay
  have hst := (u_facts hfc hkC (u_lays hts ok.2.1 hk) hi).1
  have h6 := u_store hfc hkC hkind hlay hi (ok.2.2.1 i hk) (hn (g_f G)) (hfit (g_f G))
  refine va_WputK hc.1 hc.2.1 (f := f) hown (va_Nw.use rfl (hc.2.2.2.2.2.2.2.2.1.2.1 _ hlink)) hi hst (by rw [q2]; exact h6) q1 q3 (by rw [hsl]; exact k2_hasslot (q4 i hk)) rfl rfl d fun H' e1 e2 e3 => ?_
  rw [hsl] at e1 ⊢
  exact kk p e s m args below meth c hc H' _ ls hl (put_w ok hts hK hk hH h1 h2 q2 q3 q4 e1 e2 e3) (hS.put e2 e3 (g_A_f (Nat.lt_of_lt_of_le h1 hH.2.1)))
theorem wu_same {f : Nat → pE} {i : Nat} {e : pE} (h : f i = e) : wu f i e = f := by
  funext j
  unfold wu
  split
  · rename_i e1
    rw [e1, h]
  · rfl
/-- what is put there stands there already -/
theorem P_putS {ci N i index r : Nat} {C : String} {T : u_T} {ty : Nat → FieldType} {fs : List Value} {v : Value} (d : decode M.2.1 pc = .ok (.putfield index, 3)) (ok : COK ci C T N ty) (hk : i < N) (hfin : (T i).2.2.2 = false) (hlink : Cond.fieldLink M.1.cls index (T i).1 (T i).2.1 (T i).2.2.1 ∈ gtbl) (hw : w.2 r = .inr (ci, fs)) (hn : ∀ f, narrow (ty i) (tv f v) = tv f v) (hfit : ∀ f, fits (ty i) (tv f v) = true) (hs : fs.set i v = fs)
    (kk : PW G M R QF k n (pc + 3, lv, st, w)) : PW G M R QF k n (pc, lv, v :: .ref r :: st, w) :=
  P_put d ok hk hfin hlink hw hn hfit (by rw [hs, wu_same hw]; exact kk)
theorem P_putNS {ci N i index r : Nat} {C host : String} {T : u_T} {ty : Nat → FieldType} {fs : List Value} {v : Value} (d : decode M.2.1 pc = .ok (.putfield index, 3)) (ok : COK ci C T N ty) (hk : i < N) (hfin : (T i).2.2.2 = false) (hlink : Cond.fieldLinkNest M.1.cls index (T i).1 (T i).2.1 (T i).2.2.1 host ∈ ntbl) (hw : w.2 r = .inr (ci, fs)) (hn : ∀ f, narrow (ty i) (tv f v) = tv f v) (hfit : ∀ f, fits (ty i) (tv f v) = true) (hs : fs.set i v = fs)
    (kk : PW G M R QF k n (pc + 3, lv, st, w)) : PW G M R QF k n (pc, lv, v :: .ref r :: st, w) :=
  P_putN d ok hk hfin hlink hw hn hfit (by rw [hs, wu_same hw]; exact kk)
/-- a final field, in a constructor -/
theorem P_putF {ci N i index r : Nat} {C : String} {T : u_T} {ty : Nat → FieldType} {fs : List Value} {v : Value} (d : decode M.2.1 pc = .ok (.putfield index, 3)) (ok : COK ci C T N ty) (hk : i < N) (hfin : (T i).2.2.2 = true) (hlink : Cond.fieldLink M.1.cls index (T i).1 (T i).2.1 (T i).2.2.1 ∈ gtbl) (hinit : M.1.name = "<init>") (hdecl : (T i).1 = M.1.cls) (hw : w.2 r = .inr (ci, fs)) (hn : ∀ f, narrow (ty i) (tv f v) = tv f v) (hfit : ∀ f, fits (ty i) (tv f v) = true)
    (kk : PW G M R QF k n (pc + 3, lv, st, (w.1, wu w.2 r (.inr (ci, fs.set i v))))) : PW G M R QF k n (pc, lv, v :: .ref r :: st, w) := by
  intro p e s m args below meth c hc H locs ls hl hH hS
  obtain ⟨h1, h2, h3⟩ := pe_obj hc.2.2.2.2.2.2.2.2.2.1 hH ok.1 hw
  have hts := hc.2.2.2.2.2.2.2.1
  have hown := hc.2.2.2.2.2.2.1
  have hK := hc.2.2.2.2.2.2.2.2.1.1
  obtain ⟨cell, q1, q2, q3, q4⟩ := h3
  obtain ⟨hSl, hfc, kC, hkC, hkind⟩ := hK.1 ci _ ok.1
  obtain ⟨cf, kf, fi, f, hi, hsl⟩ := hSl i hk
  have hlay := hts _ (ok.2.1 _ (u_in_lay hk))
  unfold u_lay at hlay
  rw [if_pos hfin] at hlay
  have hst := (u_facts hfc hkC (u_lays hts ok.2.1 hk) hi).1
  have hcf : m.cls = cf := by
    obtain ⟨_, _, c', _, _, _, -, -, hf', -, -, -, hown2, -⟩ := Cond.laysFinal_spec hlay
    have e1 : c' = cf := by have := hi.symm.trans hf'; simp at this; exact this.1.symm
    rw [hdecl] at hown2
    rw [← e1]; exact Option.some.inj (hown.symm.trans hown2)
  have h6 := u_fits hfc hkC hkind (Or.inr hlay) hi (ok.2.2.1 i hk) (hn (g_f G)) (hfit (g_f G))
  refine W.putFinK hc.1 hc.2.1 hown (hts _ hlink) hi hst hcf (hc.2.2.2.2.2.1.trans hinit) (by rw [q2]; exact h6) q1 q3 (by rw [hsl]; exact k2_hasslot (q4 i hk)) rfl rfl d fun H' e1 e2 e3 => ?_
  rw [hsl] at e1 ⊢
  exact kk p e s m args below meth c hc H' _ ls hl (put_w ok hts hK hk hH h1 h2 q2 q3 q4 e1 e2 e3) (hS.put e2 e3 (g_A_f (Nat.lt_of_lt_of_le h1 hH.2.1)))
/-! arrays -/
theorem P_iald {i : Int32} {j r a : Nat} {f : Nat → Int32} (d : decode M.2.1 pc = .ok (.iaload, 1)) (hw : w.2 r = .inl (0, a, .inl f)) (hi : ix i j) (hj : j < a) (kk : PW G M R QF k n (pc + 1, lv, .int (f j) :: st, w)) : PW G M R QF k n (pc, lv, .int i :: .ref r :: st, w) := by
  intro p e s m args below meth c hc H locs ls hl hH hS
  obtain ⟨-, cell, c1, c2, c3, c4, c5, c6⟩ := pe_arr hc.2.2.2.2.2.2.2.2.1.1 hc.2.2.2.2.2.2.2.2.2.1 hS hH hw
  exact W.iald (v := .int (f j)) hc.1 hc.2.1 c1 c2 c3 (ix_in hi hj c4) (by rw [hi.1]; exact c6 j hj) rfl rfl d (kk p e s m args below meth c hc H locs ls hl hH hS)
theorem P_lald {i : Int32} {j r a : Nat} {f : Nat → Int64} (d : decode M.2.1 pc = .ok (.laload, 1)) (hw : w.2 r = .inl (1, a, .inr (.inl f))) (hi : ix i j) (hj : j < a) (kk : PW G M R QF k n (pc + 1, lv, .long (f j) :: st, w)) : PW G M R QF k n (pc, lv, .int i :: .ref r :: st, w) := by
  intro p e s m args below meth c hc H locs ls hl hH hS
  obtain ⟨-, cell, c1, c2, c3, c4, c5, c6⟩ := pe_arr hc.2.2.2.2.2.2.2.2.1.1 hc.2.2.2.2.2.2.2.2.2.1 hS hH hw
  exact W.lald (v := .long (f j)) hc.1 hc.2.1 c1 c2 c3 (ix_in hi hj c4) (by rw [hi.1]; exact c6 j hj) rfl rfl d (kk p e s m args below meth c hc H locs ls hl hH hS)
theorem P_aald {i : Int32} {j r a t q : Nat} {f : Nat → Option Nat} (d : decode M.2.1 pc = .ok (.aaload, 1)) (hw : w.2 r = .inl (t, a, .inr (.inr (.inr (.inr f))))) (ht : (aty t).isReference = true) (hi : ix i j) (hj : j < a) (hq : f j = some q) (kk : PW G M R QF k n (pc + 1, lv, .ref q :: st, w)) : PW G M R QF k n (pc, lv, .int i :: .ref r :: st, w) := by
  intro p e s m args below meth c hc H locs ls hl hH hS
  obtain ⟨-, cell, c1, c2, c3, c4, c5, c6⟩ := pe_arr hc.2.2.2.2.2.2.2.2.1.1 hc.2.2.2.2.2.2.2.2.2.1 hS hH hw
  have c7 := c6 j hj
  have c8 : pv (a, .inr (.inr (.inr (.inr f)))) j = .ref q := by show va_rf (f j) = _; rw [hq]; rfl
  rw [c8] at c7
  exact W.aald (v := .ref (g_f G q)) hc.1 hc.2.1 c1 c2 ht c3 (ix_in hi hj c4) (by rw [hi.1]; exact c7) rfl rfl d (kk p e s m args below meth c hc H locs ls hl hH hS)
theorem P_alen {r t : Nat} {a : vp_A} {v : Int32} (d : decode M.2.1 pc = .ok (.arraylength, 1)) (hw : w.2 r = .inl (t, a)) (hv : Int32.ofNat a.1 = v) (kk : PW G M R QF k n (pc + 1, lv, .int v :: st, w)) : PW G M R QF k n (pc, lv, .ref r :: st, w) := by
  intro p e s m args below meth c hc H locs ls hl hH hS
  obtain ⟨-, cell, c1, c2, c3, c4, c5, c6⟩ := pe_arr hc.2.2.2.2.2.2.2.2.1.1 hc.2.2.2.2.2.2.2.2.2.1 hS hH hw
  exact W.alen (n := v) hc.1 hc.2.1 c1 c2 (c5.trans hv) rfl rfl d (kk p e s m args below meth c hc H locs ls hl hH hS)
/-- an own array's cell -/
theorem own_arr {G : pG} {w : pW} {H : Heap} {r t : Nat} {a : vp_A} (hH : HW G w H) (hw : w.2 r = .inl (t, a)) (hr : r < 1000000) : r < w.1 ∧ t < 5 ∧ H[g_f G r]? = some (arrV (g_c G t) a.1 (fun j => tv (g_f G) (pv a j))) := by
  by_cases h : r < w.1
  · have h6 := hH.2.2.1 r h
    rw [hw] at h6
    exact ⟨h, h6.1, by rw [← ta_cell]; exact h6.2⟩
  · rw [hH.2.2.2.1 r (Nat.not_lt.mp h) hr] at hw
    cases hw
theorem arr_w {G : pG} {w : pW} {H H1 : Heap} {r t j : Nat} {a a' : vp_A} {v : Value} (hH : HW G w H) (hr : r < w.1) (ht : t < 5) (e : H1[g_f G r]? = some ((arrV (g_c G t) a.1 (fun j => tv (g_f G) (pv a j))).setSlot j (tv (g_f G) v))) (z : H1.size = H.size) (oq : ∀ q : Nat, q ≠ g_f G r → H1[q]? = H[q]?) (h1 : a'.1 = a.1) (h2 : ∀ q, pv a' q = if q = j then v else pv a q) : HW G (w.1, wu w.2 r (.inl (t, a'))) H1 := by
  refine hH.set hr ⟨ht, ?_⟩ z oq
  rw [e, arrV_store, ta_cell, h1]
  refine congrArg some (congrArg (arrV _ _) (funext fun q => ?_))
  show updV _ j _ q = tv (g_f G) (pv a' q)
  rw [h2]
  unfold updV
  split <;> rfl
theorem P_iast {i x : Int32} {j r a : Nat} {f : Nat → Int32} (d : decode M.2.1 pc = .ok (.iastore, 1)) (hw : w.2 r = .inl (0, a, .inl f)) (hr : r < 1000000) (hi : ix i j) (hj : j < a) (kk : PW G M R QF k n (pc + 1, lv, st, (w.1, wu w.2 r (.inl (0, a, .inl (upd f j x)))))) : PW G M R QF k n (pc, lv, .int x :: .int i :: .ref r :: st, w) := by
  intro p e s m args below meth c hc H locs ls hl hH hS
  obtain ⟨h1, h2, h3⟩ := own_arr hH hw hr
  refine W.iast hc.1 hc.2.1 h3 ((hc.2.2.2.2.2.2.2.2.1.1.2 0 _ (tysG_at G h2)).1 _ _) (fun q => by cases q) (by rw [arrV_size]; exact ix_in hi hj (Nat.le_refl _)) rfl rfl d fun H1 e1 z oq => ?_
  rw [hi.1] at e1
  exact kk p e s m args below meth c hc H1 _ ls hl (arr_w (v := .int x) hH h1 h2 e1 z oq rfl (fun q => by show Value.int (upd f j x q) = _; unfold upd; split <;> rfl)) (hS.put z oq (g_A_f hr))
theorem P_last {i : Int32} {x : Int64} {j r a : Nat} {f : Nat → Int64} (d : decode M.2.1 pc = .ok (.lastore, 1)) (hw : w.2 r = .inl (1, a, .inr (.inl f))) (hr : r < 1000000) (hi : ix i j) (hj : j < a) (kk : PW G M R QF k n (pc + 1, lv, st, (w.1, wu w.2 r (.inl (1, a, .inr (.inl (vp_updL f j x))))))) : PW G M R QF k n (pc, lv, .long x :: .int i :: .ref r :: st, w) := by
  intro p e s m args below meth c hc H locs ls hl hH hS
  obtain ⟨h1, h2, h3⟩ := own_arr hH hw hr
  refine W.last hc.1 hc.2.1 h3 ((hc.2.2.2.2.2.2.2.2.1.1.2 1 _ (tysG_at G h2)).1 _ _) (fun q => by cases q) (by rw [arrV_size]; exact ix_in hi hj (Nat.le_refl _)) rfl rfl d fun H1 e1 z oq => ?_
  rw [hi.1] at e1
  exact kk p e s m args below meth c hc H1 _ ls hl (arr_w (v := .long x) hH h1 h2 e1 z oq rfl (fun q => by show Value.long (vp_updL f j x q) = _; unfold vp_updL; split <;> rfl)) (hS.put z oq (g_A_f hr))
/-- a Quad into an array of them -/
theorem P_aast {i : Int32} {j r a v : Nat} {f : Nat → Option Nat} {vs : List Value} (d : decode M.2.1 pc = .ok (.aastore, 1)) (hw : w.2 r = .inl (4, a, .inr (.inr (.inr (.inr f))))) (hr : r < 1000000) (hv : w.2 v = .inr (0, vs)) (hi : ix i j) (hj : j < a) (kk : PW G M R QF k n (pc + 1, lv, st, (w.1, wu w.2 r (.inl (4, a, .inr (.inr (.inr (.inr (va_up f j (some v)))))))))) : PW G M R QF k n (pc, lv, .ref v :: .int i :: .ref r :: st, w) := by
  intro p e s m args below meth c hc H locs ls hl hH hS
  obtain ⟨h1, h2, h3⟩ := own_arr hH hw hr
  have hK := hc.2.2.2.2.2.2.2.2.1.1
  obtain ⟨g0, -, cellV, g1, g2, g3, -⟩ := pe_obj (q := (R_Quad, F_Quad, 1)) hc.2.2.2.2.2.2.2.2.2.1 hH rfl hv
  have hcls := (hK.1 0 (R_Quad, F_Quad, 1) rfl).2
  obtain ⟨kA, comp, k1, k2, k3, -⟩ := (hK.2 4 _ (tysG_at G h2)).2
  have hcomp : comp = (g_D G).1 0 := Option.some.inj (k3.symm.trans hcls.1)
  subst hcomp
  obtain ⟨kC, hkC, -⟩ := hcls.2
  refine W.aast hc.1 hc.2.1 h3 (fun q h => by cases h) (fun h => by cases h) k1 k2 rfl hkC ⟨hi.2, by rw [arrV_size, hi.1]; exact hj⟩ g1 (fun q h => by rw [g3] at h; cases h) (by rw [g2]; exact hkC) (by rw [g2]; exact va_assign hcls) rfl rfl d fun H1 e1 z oq => ?_
  rw [hi.1] at e1
  exact kk p e s m args below meth c hc H1 _ ls hl (arr_w (v := .ref v) hH h1 h2 e1 z oq rfl (fun q => by show va_rf (va_up f j (some v) q) = _; unfold va_up; split <;> rfl)) (hS.put z oq (g_A_f hr))
/-! new things -/
theorem va_S.push {A : Nat → Prop} {H0 H H1 : Heap} {locs : List Loc} (h : va_S A H0 H locs) (z : H1.size = H.size + 1) (oq : ∀ q : Nat, q < H.size → H1[q]? = H[q]?) : va_S A H0 H1 locs :=
  ⟨Nat.le_trans h.1 (by omega), fun q h1 h2 => (oq q (Nat.lt_of_lt_of_le h1 h.1)).trans (h.2.1 q h1 h2), h.2.2⟩
theorem P_new {ci N index : Nat} {C : String} {T : u_T} {ty : Nat → FieldType} {fs : List Value} (d : decode M.2.1 pc = .ok (.new index, 3)) (ok : COK ci C T N ty) (hcl : Cond.classLink M.1.cls index C ∈ gtbl) (hin : Cond.instantiable C N ∈ gtbl) (hini : Cond.initialized C ∈ gtbl) (hlen : fs.length = N) (hfs : ∀ j, j < N → defaultValue (ty j) = vp_V fs j) (htv : ∀ f, fs.map (tv f) = fs) (hcells : k + 1 ≤ R.cells) (hslots : n + N ≤ R.slots) (hwx : w.1 < 1000000)
    (kk : PW G M R QF (k + 1) (n + N) (pc + 3, lv, .ref w.1 :: st, (w.1 + 1, wu w.2 w.1 (.inr (ci, fs))))) : PW G M R QF k n (pc, lv, st, w) := by
  intro p e s m args below meth c hc H locs ls hl hH hS
  have hts := hc.2.2.2.2.2.2.2.1
  have hown := hc.2.2.2.2.2.2.1
  have hK := hc.2.2.2.2.2.2.2.2.1.1
  have hKn := hK.1 ci _ ok.1
  refine W.newcK hc.1 hc.2.1 hown (hts _ hcl) (hts _ hin) (hts _ hini) rfl d hcells hslots hKn.2.1 rfl fun H1 kC hkC e1 z1 o1 => ?_
  have e2 : g_f G w.1 = H.size := by rw [g_f_own hwx]; exact hH.1.symm
  have := kk p e s m args below meth c hc H1 locs ls hl (hH.push hwx (Or.inr ⟨_, ok.1, hlen, by rw [e2, htv]; exact (u_born ty hts ok.2.1 hKn hkC e1 ok.2.2.1).to hfs⟩) z1 o1) (hS.push z1 o1)
  rw [← e2]
  exact this
theorem P_newarr {atype : ArrayType} {t N : Nat} {z : Int32} {a0 : vp_A} (d : decode M.2.1 pc = .ok (.newarray atype, 2)) (ht : newarray.typeOf atype = aty t) (ht5 : t < 5) (hw : Cond.arrayClass (newarray.typeOf atype) ∈ gtbl) (hz : ix z N) (hb : N * componentBytes (newarray.typeOf atype) ≤ 536870912) (ha : a0.1 = N ∧ ∀ f j, tv f (pv a0 j) = defaultValue (newarray.typeOf atype)) (hcells : k + 1 ≤ R.cells) (hslots : n + N ≤ R.slots) (hwx : w.1 < 1000000)
    (kk : PW G M R QF (k + 1) (n + N) (pc + 2, lv, .ref w.1 :: st, (w.1 + 1, wu w.2 w.1 (.inl (t, a0))))) : PW G M R QF k n (pc, lv, .int z :: st, w) := by
  intro p e s m args below meth c hc H locs ls hl hH hS
  have hts := hc.2.2.2.2.2.2.2.1
  have hK := hc.2.2.2.2.2.2.2.2.1.1
  refine va_newaK hc.1 hc.2.1 (hts _ hw) rfl d rfl hz.2 hz.1 hb hcells hslots rfl fun H1 cA e1 z1 o1 hAr hNm => ?_
  have e2 : g_f G w.1 = H.size := by rw [g_f_own hwx]; exact hH.1.symm
  have hA : cA = g_c G t := by
    have h9 := (hK.2 t _ (tysG_at G ht5)).2
    rw [← ht] at h9
    have h9 : s.vm.findClass ("[" ++ (newarray.typeOf atype).toString) = some (g_c G t) := by cases atype <;> exact h9
    exact Option.some.inj (hNm.symm.trans h9)
  have := kk p e s m args below meth c hc H1 locs ls hl (hH.push hwx ⟨ht5, by rw [e2, e1, ta_cell, ha.1, hA]; exact congrArg some (congrArg (arrV _ _) (funext fun j => (ha.2 _ j).symm))⟩ z1 o1) (hS.push z1 o1)
  rw [← e2]
  exact this
theorem P_anewQ {index N : Nat} {z : Int32} (d : decode M.2.1 pc = .ok (.anewarray index, 3)) (hcl : Cond.classLink M.1.cls index "CornerMaps$Quad" ∈ gtbl) (hz : ix z N) (hb : N * 4 ≤ 536870912) (hcells : k + 1 ≤ R.cells) (hslots : n + N ≤ R.slots) (hwx : w.1 < 1000000)
    (kk : PW G M R QF (k + 1) (n + N) (pc + 3, lv, .ref w.1 :: st, (w.1 + 1, wu w.2 w.1 (.inl (4, N, .inr (.inr (.inr (.inr (fun _ => none))))))))) : PW G M R QF k n (pc, lv, .int z :: st, w) := by
  intro p e s m args below meth c hc H locs ls hl hH hS
  have hts := hc.2.2.2.2.2.2.2.1
  have hown := hc.2.2.2.2.2.2.1
  have hK := hc.2.2.2.2.2.2.2.2.1.1
  obtain ⟨hz1, hz2⟩ := hz
  subst hz1
  refine W.anew hc.1 hc.2.1 hown (hts _ hcl) (va_AO.use hc.2.2.2.2.2.2.2.2.1.2.2.1) rfl d rfl hz2 hb hcells hslots fun cA kA comp f1 f2 f3 f4 => ?_
  generalize hH1 : H.push ({ cls := cA, slots := Array.replicate z.toNatClampNeg .null, vm := .none } : Cell) = H1
  have z1 : H1.size = H.size + 1 := by rw [← hH1, Array.size_push]
  have e1 : H1[H.size]? = some (arrV cA z.toNatClampNeg (fun _ => .null)) := by rw [← hH1, Array.getElem?_push_size, ← arrV_new]
  have o1 : ∀ q : Nat, q < H.size → H1[q]? = H[q]? := fun q hq => by rw [← hH1, Array.getElem?_push, if_neg (Nat.ne_of_lt hq)]
  have e2 : g_f G w.1 = H.size := by rw [g_f_own hwx]; exact hH.1.symm
  obtain ⟨kB, comp2, k1, k2, k3, k4⟩ := (hK.2 4 _ (tysG_at G (by decide))).2
  have hA : cA = g_c G 4 := Option.some.inj (f1.symm.trans k4)
  have := kk p e s m args below meth c hc H1 locs ls hl (hH.push hwx ⟨(by decide : 4 < 5), by rw [e2, e1, ta_cell, hA]; rfl⟩ z1 o1) (hS.push z1 o1)
  rw [← e2]
  exact this
end PWH
