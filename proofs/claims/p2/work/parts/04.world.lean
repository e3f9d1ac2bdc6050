/-! the pure world: cells by numbers of our own; below 1000000 those that the run makes, in order; from there on those that were there at the start, which nobody writes -/
abbrev pE : Type := (Nat × vp_A) ⊕ (Nat × List Value)
abbrev pW : Type := Nat × (Nat → pE)
/-- the launch, the heap's size at the start, where the outer cells lie, classes and slots, array classes, the outer cells -/
abbrev pG : Type := Launch × Nat × (Nat → Nat) × va_G × (Nat → ClassId) × (Nat → pE)
abbrev g_l (G : pG) : Launch := G.1
abbrev g_b (G : pG) : Nat := G.2.1
abbrev g_x (G : pG) : Nat → Nat := G.2.2.1
abbrev g_D (G : pG) : va_G := G.2.2.2.1
abbrev g_c (G : pG) : Nat → ClassId := G.2.2.2.2.1
abbrev g_w (G : pG) : Nat → pE := G.2.2.2.2.2
def g_f (G : pG) (k : Nat) : Nat := if k < 1000000 then g_b G + k else g_x G (k - 1000000)
def g_A (G : pG) : Nat → Prop := fun q => g_b G ≤ q
theorem g_f_own {G : pG} {k : Nat} (h : k < 1000000) : g_f G k = g_b G + k := if_pos h
theorem g_f_ext {G : pG} {k : Nat} (h : 1000000 ≤ k) : g_f G k = g_x G (k - 1000000) := if_neg (Nat.not_lt.mpr h)
theorem g_A_f {G : pG} {k : Nat} (h : k < 1000000) : g_A G (g_f G k) := by rw [g_f_own h]; exact Nat.le_add_right _ _
theorem g_inj {G : pG} {i j : Nat} (hi : i < 1000000) (hj : j < 1000000) (h : g_f G i = g_f G j) : i = j := by rw [g_f_own hi, g_f_own hj] at h; omega
def tv (f : Nat → Nat) : Value → Value
  | .ref a => .ref (f a)
  | v => v
def ta (f : Nat → Nat) (a : vp_A) : vp_A := match a.2 with
  | .inr (.inr (.inr (.inr g))) => (a.1, .inr (.inr (.inr (.inr (fun j => (g j).map f)))))
  | _ => a
/-- what an array holds at a place -/
def pv (a : vp_A) (j : Nat) : Value := match a.2 with
  | .inl f => .int (f j)
  | .inr (.inl f) => .long (f j)
  | .inr (.inr (.inl f)) => .float (f j)
  | .inr (.inr (.inr (.inl f))) => .double (f j)
  | .inr (.inr (.inr (.inr f))) => va_rf (f j)
theorem tv_cat (f : Nat → Nat) (v : Value) : (tv f v).category = v.category := by cases v <;> rfl
theorem tv_rf (f : Nat → Nat) (r : Option Nat) : tv f (va_rf r) = va_rf (r.map f) := by cases r <;> rfl
theorem ta_1 (f : Nat → Nat) (a : vp_A) : (ta f a).1 = a.1 := by
  obtain ⟨n, g | g | g | g | g⟩ := a <;> rfl
theorem ta_cell (f : Nat → Nat) (c : ClassId) (a : vp_A) : vp_cell c (ta f a) = arrV c a.1 (fun j => tv f (pv a j)) := by
  obtain ⟨n, g | g | g | g | g⟩ := a
  · rfl
  · rfl
  · rfl
  · rfl
  · show arrV c n (fun j => va_rf ((g j).map f)) = arrV c n (fun j => tv f (va_rf (g j)))
    exact congrArg (arrV c n) (funext fun j => (tv_rf f (g j)).symm)
def aty : Nat → FieldType
  | 0 => .int
  | 1 => .long
  | 2 => .byte
  | 3 => .array .long
  | 4 => .object "CornerMaps$Quad"
  | _ => .int
def tysG (G : pG) : List (ClassId × FieldType) := (List.range 5).map (fun t => (g_c G t, aty t))
theorem tysG_at (G : pG) {t : Nat} (h : t < 5) : (tysG G)[t]? = some (g_c G t, aty t) := by
  simp [tysG, h]
def pat (G : pG) (i : Nat) (e : pE) (H : Heap) : Prop := match e with
  | .inl x => x.1 < 5 ∧ H[g_f G i]? = some (vp_cell (g_c G x.1) (ta (g_f G) x.2))
  | .inr o => o.1 = 1000 ∨ ∃ r : vw_C, classes[o.1]? = some r ∧ o.2.length = r.2.2 ∧ t_OB (g_f G i) ((g_D G).1 o.1) r.2.2 ((g_D G).2 o.1) H (vp_V (o.2.map (tv (g_f G))))
theorem pat.kept {G : pG} {i : Nat} {e : pE} {H H1 : Heap} (h : pat G i e H) (hq : H1[g_f G i]? = H[g_f G i]?) : pat G i e H1 := by
  cases e with
  | inl x => exact ⟨h.1, hq.trans h.2⟩
  | inr o =>
    rcases h with h | ⟨r, h1, h2, h3⟩
    · exact Or.inl h
    · exact Or.inr ⟨r, h1, h2, h3.kept hq⟩
def no_p : pE := .inr (1000, [])
def HW (G : pG) (w : pW) (H : Heap) : Prop :=
  H.size = g_b G + w.1 ∧ w.1 ≤ 1000000 ∧ (∀ i, i < w.1 → pat G i (w.2 i) H) ∧ (∀ i, w.1 ≤ i → i < 1000000 → w.2 i = no_p) ∧ ∀ k, w.2 (1000000 + k) = g_w G k
def wu (f : Nat → pE) (i : Nat) (e : pE) : Nat → pE := fun j => if j = i then e else f j
theorem wu_s (f : Nat → pE) (i : Nat) (e : pE) : wu f i e i = e := if_pos rfl
theorem wu_n {f : Nat → pE} {i j : Nat} {e : pE} (h : j ≠ i) : wu f i e j = f j := if_neg h
theorem HW.set {G : pG} {w : pW} {H H1 : Heap} {r : Nat} {e : pE} (h : HW G w H) (hr : r < w.1) (he : pat G r e H1) (z : H1.size = H.size) (oq : ∀ q : Nat, q ≠ g_f G r → H1[q]? = H[q]?) : HW G (w.1, wu w.2 r e) H1 := by
  obtain ⟨h1, h2, h3, h4, h5⟩ := h
  have hrx : r < 1000000 := Nat.lt_of_lt_of_le hr h2
  refine ⟨z.trans h1, h2, fun i hi => ?_, fun i hi hx => ?_, fun k => ?_⟩
  · by_cases e1 : i = r
    · subst e1
      show pat G i (wu w.2 i e i) H1
      rw [wu_s]
      exact he
    · show pat G i (wu w.2 r e i) H1
      rw [wu_n e1]
      exact (h3 i hi).kept (oq _ (fun q => e1 (g_inj (Nat.lt_of_lt_of_le hi h2) hrx q)))
  · show wu w.2 r e i = no_p
    have hi : w.1 ≤ i := hi
    rw [wu_n (by omega)]
    exact h4 i hi hx
  · show wu w.2 r e (1000000 + k) = _
    rw [wu_n (by omega)]
    exact h5 k
theorem HW.push {G : pG} {w : pW} {H H1 : Heap} {e : pE} (h : HW G w H) (hr : w.1 < 1000000) (he : pat G w.1 e H1) (z : H1.size = H.size + 1) (oq : ∀ q : Nat, q < H.size → H1[q]? = H[q]?) : HW G (w.1 + 1, wu w.2 w.1 e) H1 := by
  obtain ⟨h1, h2, h3, h4, h5⟩ := h
  refine ⟨by show H1.size = g_b G + (w.1 + 1); omega, hr, fun i hi => ?_, fun i hi hx => ?_, fun k => ?_⟩
  · have hi : i < w.1 + 1 := hi
    by_cases e1 : i = w.1
    · subst e1
      show pat G w.1 (wu w.2 w.1 e w.1) H1
      rw [wu_s]
      exact he
    · show pat G i (wu w.2 w.1 e i) H1
      rw [wu_n e1]
      refine (h3 i (by omega)).kept (oq _ ?_)
      rw [g_f_own (by omega)]
      omega
  · show wu w.2 w.1 e i = no_p
    have hi : w.1 + 1 ≤ i := hi
    rw [wu_n (by omega)]
    exact h4 i (by omega) hx
  · show wu w.2 w.1 e (1000000 + k) = _
    rw [wu_n (by omega)]
    exact h5 k
/-! what stands outside -/
def xat (G : pG) (k : Nat) (U : State) (H : Heap) : Prop := match g_w G k with
  | .inl (0, n, .inl f) => va_T .int (g_x G k) n (fun j => .int (f j)) (g_A G) U H
  | .inl (1, n, .inr (.inl f)) => va_T .long (g_x G k) n (fun j => .long (f j)) (g_A G) U H
  | .inl (2, n, .inl f) => va_T .byte (g_x G k) n (fun j => .int (f j)) (g_A G) U H
  | .inr o => o.1 = 1000
  | _ => False
def sts : List (String × String × String × Nat) := [("CornerMaps", "ORDERS", "[I", 1), ("CornerMaps", "DIAGONALS", "[I", 2), ("CornerMaps", "NOTHING", "[J", 3), ("CornerMaps", "FAR_LINE", "[J", 4)]
def stv : List (String × String × String × Value) := [("java/lang/String", "COMPACT_STRINGS", "Z", .int 1)]
def XX (G : pG) (U : State) (H : Heap) : Prop :=
  (∀ k, xat G k U H) ∧ (∀ q ∈ stv, va_Z q.1 q.2.1 q.2.2.1 q.2.2.2 (g_A G) U H) ∧ (∀ q ∈ sts, va_Z q.1 q.2.1 q.2.2.1 (.ref (g_x G q.2.2.2)) (g_A G) U H) ∧ vx_Zq Bundle.tN "UNASSIGNED_STACK" Bundle.steD (g_A G) U H ∧ vx_Zq Bundle.tN "SUPPRESSED_SENTINEL" Bundle.listD (g_A G) U H
theorem xat.go {G : pG} {k : Nat} {s U : State} {H H1 : Heap} (hvm : s.vm.Alike U.vm) (hq : ∀ a : Nat, a < H.size → ¬ g_A G a → H1[a]? = H[a]?) (h : xat G k s H) : xat G k U H1 := by
  unfold xat at h ⊢
  split at h <;> first | exact (h.moved hvm).kept hq | exact h
theorem XX.go {G : pG} {s U : State} {H H1 : Heap} (hvm : s.vm.Alike U.vm) (hq : ∀ a : Nat, a < H.size → ¬ g_A G a → H1[a]? = H[a]?) (h : XX G s H) : XX G U H1 :=
  ⟨fun k => (h.1 k).go hvm hq, fun q hm => ((h.2.1 q hm).moved hvm).kept hq, fun q hm => ((h.2.2.1 q hm).moved hvm).kept hq, (h.2.2.2.1.moved hvm).kept hq, (h.2.2.2.2.moved hvm).kept hq⟩
def KX (G : pG) (U : State) : Prop := va_K (g_D G) classes (tysG G) U ∧ (∀ w ∈ ntbl, va_Nw w U) ∧ va_AO "CornerMaps$Quad" U ∧ (Cond.arrayOver (.array .long)).before #[] U = true
theorem KX.moved {G : pG} {s U : State} (hW : s.WarmedH U.vm) (h : KX G s) : KX G U := by
  refine ⟨va_K.moved hW.alike h.1, fun w hw => ?_, va_AO.moved hW.alike h.2.2.1, Stand.arrayOver_alikeB hW.alike h.2.2.2⟩
  have h1 := h.2.1 w hw
  have h2 := (List.mem_filter.mp hw).2
  cases w <;> first | exact va_Nw.warmF hW h1 | exact va_Nw.warmM hW h1 | exact va_Nw.warmC hW h1 | exact va_Nw.warmD hW h1 | (simp [nword] at h2)
/-- the facts of an array, outer or own -/
theorem pe_arr {G : pG} {w : pW} {s : State} {H H0 : Heap} {locs : List Loc} {r t : Nat} {a : vp_A} (hK : va_K (g_D G) classes (tysG G) s) (hX : XX G s H0) (hS : va_S (g_A G) H0 H locs) (hH : HW G w H) (hw : w.2 r = .inl (t, a)) :
    t < 5 ∧ ∃ cell : Cell, H[g_f G r]? = some cell ∧ s.isArrayOf cell (aty t) ∧ cell.vm ≠ .unknown ∧ a.1 ≤ cell.slots.size ∧ cell.slots.size.toInt32 = Int32.ofNat a.1 ∧ ∀ j : Nat, j < a.1 → cell.slots[j]? = some (tv (g_f G) (pv a j)) := by
  obtain ⟨h1, h2, h3, h4, h5⟩ := hH
  by_cases hr : r < w.1
  · have h6 := h3 r hr
    rw [hw] at h6
    obtain ⟨ht, h7⟩ := h6
    rw [ta_cell] at h7
    refine ⟨ht, _, h7, (hK.2 t _ (tysG_at G ht)).1 _ _, (fun q => by cases q), ?_, ?_, fun j hj => arrV_read _ _ hj⟩
    · rw [arrV_size]; exact Nat.le_refl _
    · rw [arrV_size] <;> rfl
  · by_cases hx : r < 1000000
    · rw [h4 r (Nat.not_lt.mp hr) hx] at hw
      cases hw
    · obtain ⟨k, hk⟩ : ∃ k, r = 1000000 + k := ⟨r - 1000000, by omega⟩
      subst hk
      rw [h5 k] at hw
      have h6 := hX.1 k
      have hf : g_f G (1000000 + k) = g_x G k := (g_f_ext (Nat.le_add_right _ _)).trans (congrArg (g_x G) (Nat.add_sub_cancel_left ..))
      unfold xat at h6
      rw [hf]
      split at h6
      · rename_i n f e
        rw [e] at hw
        cases hw
        obtain ⟨cell, c1, c2, c3, c4, c5, c6, c7⟩ := h6
        exact ⟨by decide, cell, by rw [hS.2.1 _ (Array.getElem?_eq_some_iff.mp c1).1 c7]; exact c1, c2, c3, c4, c5, c6⟩
      · rename_i n f e
        rw [e] at hw
        cases hw
        obtain ⟨cell, c1, c2, c3, c4, c5, c6, c7⟩ := h6
        exact ⟨by decide, cell, by rw [hS.2.1 _ (Array.getElem?_eq_some_iff.mp c1).1 c7]; exact c1, c2, c3, c4, c5, c6⟩
      · rename_i n f e
        rw [e] at hw
        cases hw
        obtain ⟨cell, c1, c2, c3, c4, c5, c6, c7⟩ := h6
        exact ⟨by decide, cell, by rw [hS.2.1 _ (Array.getElem?_eq_some_iff.mp c1).1 c7]; exact c1, c2, c3, c4, c5, c6⟩
      · rename_i o e
        rw [e] at hw
        cases hw
      · exact h6.elim
/-- the facts of an object -/
theorem pe_obj {G : pG} {w : pW} {s : State} {H H0 : Heap} {r ci : Nat} {fs : List Value} {q : vw_C} (hX : XX G s H0) (hH : HW G w H) (hc : classes[ci]? = some q) (hw : w.2 r = .inr (ci, fs)) :
    r < w.1 ∧ fs.length = q.2.2 ∧ t_OB (g_f G r) ((g_D G).1 ci) q.2.2 ((g_D G).2 ci) H (vp_V (fs.map (tv (g_f G)))) := by
  obtain ⟨h1, h2, h3, h4, h5⟩ := hH
  have hci : ci < 10 := (List.getElem?_eq_some_iff.mp hc).1
  by_cases hr : r < w.1
  · have h6 := h3 r hr
    rw [hw] at h6
    rcases h6 with h6 | ⟨q', e1, e2, e3⟩
    · have h6 : ci = 1000 := h6
      omega
    · cases hc.symm.trans e1
      exact ⟨hr, e2, e3⟩
  · by_cases hx : r < 1000000
    · rw [h4 r (Nat.not_lt.mp hr) hx] at hw
      have : (1000, ([] : List Value)) = (ci, fs) := Sum.inr.inj hw
      have : 1000 = ci := congrArg Prod.fst this
      omega
    · obtain ⟨k, hk⟩ : ∃ k, r = 1000000 + k := ⟨r - 1000000, by omega⟩
      subst hk
      rw [h5 k] at hw
      have h6 := hX.1 k
      unfold xat at h6
      rw [hw] at h6
      have h6 : ci = 1000 := h6
      omega
