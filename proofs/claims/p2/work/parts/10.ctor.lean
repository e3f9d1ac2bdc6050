/-! constructors of Quad and Plane (declarations by program) -/
def M_Quad_init : pM := (⟨"CornerMaps$Quad", "<init>", "()V"⟩, prog_7_method_1_code, 1, none)
theorem co_Quad_init : CalOK M_Quad_init 0 := ⟨g_at 53 (by decide +kernel) rfl, g_at 3 (by decide +kernel) rfl, by decide +kernel, by decide +kernel, by decide +kernel⟩
theorem pn_Quad_init : plainName M_Quad_init.1.cls = true := by decide +kernel
def M_Plane_init : pM := (⟨"CornerMaps$Plane", "<init>", "()V"⟩, prog_6_method_1_code, 2, none)
theorem co_Plane_init : CalOK M_Plane_init 0 := ⟨g_at 44 (by decide +kernel) rfl, g_at 2 (by decide +kernel) rfl, by decide +kernel, by decide +kernel, by decide +kernel⟩
theorem pn_Plane_init : plainName M_Plane_init.1.cls = true := by decide +kernel
theorem im_Quad_init : Cond.instanceMethod M_Quad_init.1 ∈ gtbl := g_at 52 (by decide +kernel) rfl
theorem im_Plane_init : Cond.instanceMethod M_Plane_init.1 ∈ gtbl := g_at 43 (by decide +kernel) rfl
theorem L_Quad_3 : Cond.methodLink "CornerMaps$Quad" 3 ⟨"java/lang/Object", "<init>", "()V"⟩ ∈ gtbl := g_at 54 (by decide +kernel) rfl
theorem L_Quad_9 : Cond.classLink "CornerMaps$Quad" 9 "[[J" ∈ gtbl := g_at 55 (by decide +kernel) rfl
theorem L_Quad_11 : Cond.fieldLink "CornerMaps$Quad" 11 "CornerMaps$Quad" "corners" "[[J" ∈ gtbl := g_at 56 (by decide +kernel) rfl
theorem L_Plane_3 : Cond.methodLink "CornerMaps$Plane" 3 ⟨"java/lang/Object", "<init>", "()V"⟩ ∈ gtbl := g_at 45 (by decide +kernel) rfl
theorem L_Plane_9 : Cond.classLink "CornerMaps$Plane" 9 "CornerMaps$Quad" ∈ gtbl := g_at 46 (by decide +kernel) rfl
theorem L_Plane_11 : Cond.fieldLink "CornerMaps$Plane" 11 "CornerMaps$Plane" "quads" "[LCornerMaps$Quad;" ∈ gtbl := g_at 64 (by decide +kernel) rfl
theorem L_Plane_17 : Cond.classLink "CornerMaps$Plane" 17 "[[J" ∈ gtbl := g_at 48 (by decide +kernel) rfl
theorem L_Plane_19 : Cond.fieldLink "CornerMaps$Plane" 19 "CornerMaps$Plane" "maps" "[[J" ∈ gtbl := g_at 67 (by decide +kernel) rfl
theorem L_Plane_22 : Cond.fieldLink "CornerMaps$Plane" 22 "CornerMaps$Plane" "points" "[[J" ∈ gtbl := g_at 70 (by decide +kernel) rfl
theorem L_Plane_25 : Cond.methodLinkNest "CornerMaps$Plane" 25 ⟨"CornerMaps$Quad", "<init>", "()V"⟩ "CornerMaps" ∈ ntbl := nt_at 51 (by decide +kernel) rfl
theorem F_Quad_init_0 : Jvm.Free.DS.Facts prog_7_method_1_code 0 [(.aload_n 0, 1), (.invokespecial 3, 3), (.aload_n 0, 1), (.iconst 4, 1), (.iconst 3, 1), (.multianewarray 9 2, 4), (.putfield 11, 3), (.return_, 1)] := Jvm.Free.DS.facts 0 _ (by decide +kernel) (by decide +kernel)
theorem d_Quad_init_0 : decode prog_7_method_1_code 0 = .ok (.aload_n 0, 1) := F_Quad_init_0.1
theorem d_Quad_init_1 : decode prog_7_method_1_code 1 = .ok (.invokespecial 3, 3) := F_Quad_init_0.2.1
theorem d_Quad_init_4 : decode prog_7_method_1_code 4 = .ok (.aload_n 0, 1) := F_Quad_init_0.2.2.1
theorem d_Quad_init_5 : decode prog_7_method_1_code 5 = .ok (.iconst 4, 1) := F_Quad_init_0.2.2.2.1
theorem d_Quad_init_6 : decode prog_7_method_1_code 6 = .ok (.iconst 3, 1) := F_Quad_init_0.2.2.2.2.1
theorem d_Quad_init_7 : decode prog_7_method_1_code 7 = .ok (.multianewarray 9 2, 4) := F_Quad_init_0.2.2.2.2.2.1
theorem d_Quad_init_11 : decode prog_7_method_1_code 11 = .ok (.putfield 11, 3) := F_Quad_init_0.2.2.2.2.2.2.1
theorem d_Quad_init_14 : decode prog_7_method_1_code 14 = .ok (.return_, 1) := F_Quad_init_0.2.2.2.2.2.2.2.1
theorem F_Plane_init_0 : Jvm.Free.DS.Facts prog_6_method_1_code 0 [(.aload_n 0, 1), (.invokespecial 3, 3), (.aload_n 0, 1), (.bipush (8), 2), (.anewarray 9, 3), (.putfield 11, 3), (.aload_n 0, 1), (.bipush (16), 2), (.bipush (9), 2), (.multianewarray 17 2, 4), (.putfield 19, 3), (.aload_n 0, 1), (.bipush (8), 2), (.iconst 3, 1), (.multianewarray 17 2, 4), (.putfield 22, 3), (.iconst 0, 1), (.istore_n 1, 1), (.iload_n 1, 1), (.bipush (8), 2), (.if_icmp .ge (22), 3), (.aload_n 0, 1), (.getfield 11, 3), (.iload_n 1, 1), (.new 9, 3), (.dup, 1), (.invokespecial 25, 3), (.aastore, 1), (.iinc 1 (1), 3), (.goto (-22), 3), (.return_, 1)] := Jvm.Free.DS.facts 0 _ (by decide +kernel) (by decide +kernel)
theorem d_Plane_init_0 : decode prog_6_method_1_code 0 = .ok (.aload_n 0, 1) := F_Plane_init_0.1
theorem d_Plane_init_1 : decode prog_6_method_1_code 1 = .ok (.invokespecial 3, 3) := F_Plane_init_0.2.1
theorem d_Plane_init_4 : decode prog_6_method_1_code 4 = .ok (.aload_n 0, 1) := F_Plane_init_0.2.2.1
theorem d_Plane_init_5 : decode prog_6_method_1_code 5 = .ok (.bipush (8), 2) := F_Plane_init_0.2.2.2.1
theorem d_Plane_init_7 : decode prog_6_method_1_code 7 = .ok (.anewarray 9, 3) := F_Plane_init_0.2.2.2.2.1
theorem d_Plane_init_10 : decode prog_6_method_1_code 10 = .ok (.putfield 11, 3) := F_Plane_init_0.2.2.2.2.2.1
theorem d_Plane_init_13 : decode prog_6_method_1_code 13 = .ok (.aload_n 0, 1) := F_Plane_init_0.2.2.2.2.2.2.1
theorem d_Plane_init_14 : decode prog_6_method_1_code 14 = .ok (.bipush (16), 2) := F_Plane_init_0.2.2.2.2.2.2.2.1
theorem d_Plane_init_16 : decode prog_6_method_1_code 16 = .ok (.bipush (9), 2) := F_Plane_init_0.2.2.2.2.2.2.2.2.1
theorem d_Plane_init_18 : decode prog_6_method_1_code 18 = .ok (.multianewarray 17 2, 4) := F_Plane_init_0.2.2.2.2.2.2.2.2.2.1
theorem d_Plane_init_22 : decode prog_6_method_1_code 22 = .ok (.putfield 19, 3) := F_Plane_init_0.2.2.2.2.2.2.2.2.2.2.1
theorem d_Plane_init_25 : decode prog_6_method_1_code 25 = .ok (.aload_n 0, 1) := F_Plane_init_0.2.2.2.2.2.2.2.2.2.2.2.1
theorem d_Plane_init_26 : decode prog_6_method_1_code 26 = .ok (.bipush (8), 2) := F_Plane_init_0.2.2.2.2.2.2.2.2.2.2.2.2.1
theorem d_Plane_init_28 : decode prog_6_method_1_code 28 = .ok (.iconst 3, 1) := F_Plane_init_0.2.2.2.2.2.2.2.2.2.2.2.2.2.1
theorem d_Plane_init_29 : decode prog_6_method_1_code 29 = .ok (.multianewarray 17 2, 4) := F_Plane_init_0.2.2.2.2.2.2.2.2.2.2.2.2.2.2.1
theorem d_Plane_init_33 : decode prog_6_method_1_code 33 = .ok (.putfield 22, 3) := F_Plane_init_0.2.2.2.2.2.2.2.2.2.2.2.2.2.2.2.1
theorem d_Plane_init_36 : decode prog_6_method_1_code 36 = .ok (.iconst 0, 1) := F_Plane_init_0.2.2.2.2.2.2.2.2.2.2.2.2.2.2.2.2.1
theorem d_Plane_init_37 : decode prog_6_method_1_code 37 = .ok (.istore_n 1, 1) := F_Plane_init_0.2.2.2.2.2.2.2.2.2.2.2.2.2.2.2.2.2.1
theorem d_Plane_init_38 : decode prog_6_method_1_code 38 = .ok (.iload_n 1, 1) := F_Plane_init_0.2.2.2.2.2.2.2.2.2.2.2.2.2.2.2.2.2.2.1
theorem d_Plane_init_39 : decode prog_6_method_1_code 39 = .ok (.bipush (8), 2) := F_Plane_init_0.2.2.2.2.2.2.2.2.2.2.2.2.2.2.2.2.2.2.2.1
theorem d_Plane_init_41 : decode prog_6_method_1_code 41 = .ok (.if_icmp .ge (22), 3) := F_Plane_init_0.2.2.2.2.2.2.2.2.2.2.2.2.2.2.2.2.2.2.2.2.1
theorem d_Plane_init_44 : decode prog_6_method_1_code 44 = .ok (.aload_n 0, 1) := F_Plane_init_0.2.2.2.2.2.2.2.2.2.2.2.2.2.2.2.2.2.2.2.2.2.1
theorem d_Plane_init_45 : decode prog_6_method_1_code 45 = .ok (.getfield 11, 3) := F_Plane_init_0.2.2.2.2.2.2.2.2.2.2.2.2.2.2.2.2.2.2.2.2.2.2.1
theorem d_Plane_init_48 : decode prog_6_method_1_code 48 = .ok (.iload_n 1, 1) := F_Plane_init_0.2.2.2.2.2.2.2.2.2.2.2.2.2.2.2.2.2.2.2.2.2.2.2.1
theorem d_Plane_init_49 : decode prog_6_method_1_code 49 = .ok (.new 9, 3) := F_Plane_init_0.2.2.2.2.2.2.2.2.2.2.2.2.2.2.2.2.2.2.2.2.2.2.2.2.1
theorem d_Plane_init_52 : decode prog_6_method_1_code 52 = .ok (.dup, 1) := F_Plane_init_0.2.2.2.2.2.2.2.2.2.2.2.2.2.2.2.2.2.2.2.2.2.2.2.2.2.1
theorem d_Plane_init_53 : decode prog_6_method_1_code 53 = .ok (.invokespecial 25, 3) := F_Plane_init_0.2.2.2.2.2.2.2.2.2.2.2.2.2.2.2.2.2.2.2.2.2.2.2.2.2.2.1
theorem d_Plane_init_56 : decode prog_6_method_1_code 56 = .ok (.aastore, 1) := F_Plane_init_0.2.2.2.2.2.2.2.2.2.2.2.2.2.2.2.2.2.2.2.2.2.2.2.2.2.2.2.1
theorem d_Plane_init_57 : decode prog_6_method_1_code 57 = .ok (.iinc 1 (1), 3) := F_Plane_init_0.2.2.2.2.2.2.2.2.2.2.2.2.2.2.2.2.2.2.2.2.2.2.2.2.2.2.2.2.1
theorem d_Plane_init_60 : decode prog_6_method_1_code 60 = .ok (.goto (-22), 3) := F_Plane_init_0.2.2.2.2.2.2.2.2.2.2.2.2.2.2.2.2.2.2.2.2.2.2.2.2.2.2.2.2.2.1
theorem d_Plane_init_63 : decode prog_6_method_1_code 63 = .ok (.return_, 1) := F_Plane_init_0.2.2.2.2.2.2.2.2.2.2.2.2.2.2.2.2.2.2.2.2.2.2.2.2.2.2.2.2.2.2.1

def z9 : pE := .inl (1, 9, .inr (.inl (fun _ => 0)))
def z3 : pE := .inl (1, 3, .inr (.inl (fun _ => 0)))
def refs (g : Nat → Option Nat) : (Nat → Int32) ⊕ (Nat → Int64) ⊕ (Nat → UInt32) ⊕ (Nat → UInt64) ⊕ (Nat → Option Nat) := .inr (.inr (.inr (.inr g)))
theorem le_b {a b : Nat} (h : Nat.ble a b = true) : a ≤ b := Nat.le_of_ble_eq_true h
/-- a new Quad: its object at b, its corners at c .. c + 4 -/
def QuadAt (f : Nat → pE) (b c : Nat) : Prop := f b = .inr (0, [.ref c]) ∧ f c = .inl (3, 4, refs (rows_of c 4)) ∧ ∀ i, i < 4 → f (c + 1 + i) = z3
theorem QuadAt.kept {f g : Nat → pE} {b c : Nat} (h : QuadAt f b c) (hb : g b = f b) (hc : ∀ i, c ≤ i → i < c + 5 → g i = f i) : QuadAt g b c :=
  ⟨hb.trans h.1, (hc c (Nat.le_refl _) (by omega)).trans h.2.1, fun i hi => (hc _ (by omega) (by omega)).trans (h.2.2 i hi)⟩
theorem c_Quad_init {G : pG} (b N : Nat) (f : Nat → pE) (hb : f b = .inr (0, [.null])) (hN : N + 5 ≤ 1000000) (hbN : b < N) : PM G M_Quad_init 1 5 16 [.ref b] (N, f) (fun r w' => r = none ∧ ∃ g : Nat → pE, w' = (N + 5, g) ∧ (∀ i, i ≠ b → (i < N ∨ N + 5 ≤ i) → g i = f i) ∧ QuadAt g b N) := by
  refine PM_of pn_Quad_init (le_b rfl) ?_
  show PW _ _ _ _ _ _ (0, [(0, .ref b)], [], (N, f))
  refine P_aload_n d_Quad_init_0 rfl ?_
  refine P_objInit d_Quad_init_1 L_Quad_3 im_objInit cd_objInit ⟨le_b rfl, le_b rfl⟩ (le_b rfl) ?_
  refine P_aload_n d_Quad_init_4 rfl ?_
  refine P_iconst (v := 4) d_Quad_init_5 (by decide) ?_
  refine P_iconst (v := 3) d_Quad_init_6 (by decide) ?_
  refine P_mnew (N := 4) (K := 3) d_Quad_init_7 L_Quad_9 ac_long ⟨by decide, by decide⟩ ⟨by decide, by decide⟩ (le_b rfl) (le_b rfl) (le_b rfl) (le_b rfl) hN ?_
  refine P_putF (i := 0) d_Quad_init_11 ok_Quad (by decide) rfl L_Quad_11 rfl rfl ((wr_out (by show ¬ (N + 1 ≤ b ∧ b < N + 1 + 4); omega)).trans ((wu_n (Nat.ne_of_lt hbN)).trans hb)) (fun _ => rfl) (fun _ => rfl) ?_
  refine P_vret d_Quad_init_14 rfl (le_b rfl) (le_b rfl) ⟨rfl, _, rfl, fun i h1 h2 => ?_, ?_, ?_, fun i hi => ?_⟩
  · show wu (wr (wu f N _) (N + 1) (N + 1 + 4) _) b _ i = f i
    rw [wu_n h1, wr_out (by omega), wu_n (by omega)]
  · exact wu_s _ _ _
  · show wu (wr (wu f N _) (N + 1) (N + 1 + 4) _) b _ N = _
    rw [wu_n (by omega), wr_out (by omega), wu_s]
    rfl
  · show wu (wr (wu f N _) (N + 1) (N + 1 + 4) _) b _ (N + 1 + i) = _
    rw [wu_n (by omega), wr_in (by omega) (by omega)]
    rfl
def pq (n q : Nat) : Nat → Option Nat := fun i => if i < q then some (n + 27 + 6 * i) else none
theorem pq_up (n q : Nat) : va_up (pq n q) q (some (n + 27 + 6 * q)) = pq n (q + 1) := by
  funext i
  unfold va_up pq
  by_cases h : i = q
  · subst h
    rw [if_pos rfl, if_pos (by omega)]
  · rw [if_neg h]
    by_cases h2 : i < q
    · rw [if_pos h2, if_pos (by omega)]
    · rw [if_neg h2, if_neg (by omega)]
/-- a new Plane: its object at b, its cells at n .. n + 74 -/
def PlaneAt (f : Nat → pE) (b n : Nat) : Prop :=
  f b = .inr (1, [.ref n, .ref (n + 1), .ref (n + 18), .int 0, .int 0, .int 0, .int 0]) ∧ f n = .inl (4, 8, refs (pq n 8)) ∧ f (n + 1) = .inl (3, 16, refs (rows_of (n + 1) 16)) ∧ (∀ i, i < 16 → f (n + 2 + i) = z9) ∧ f (n + 18) = .inl (3, 8, refs (rows_of (n + 18) 8)) ∧ (∀ i, i < 8 → f (n + 19 + i) = z3) ∧ ∀ q, q < 8 → QuadAt f (n + 27 + 6 * q) (n + 28 + 6 * q)
theorem PlaneAt.kept {f g : Nat → pE} {b n : Nat} (h : PlaneAt f b n) (hb : g b = f b) (hc : ∀ i, n ≤ i → i < n + 75 → g i = f i) : PlaneAt g b n := by
  obtain ⟨h1, h2, h3, h4, h5, h6, h7⟩ := h
  exact ⟨hb.trans h1, (hc _ (by omega) (by omega)).trans h2, (hc _ (by omega) (by omega)).trans h3, fun i hi => (hc _ (by omega) (by omega)).trans (h4 i hi), (hc _ (by omega) (by omega)).trans h5, fun i hi => (hc _ (by omega) (by omega)).trans (h6 i hi), fun q hq => (h7 q hq).kept (hc _ (by omega) (by omega)) (fun i h1 h2 => hc i (by omega) (by omega))⟩
def pfs (n : Nat) : List Value := [.ref n, .ref (n + 1), .ref (n + 18), .int 0, .int 0, .int 0, .int 0]
theorem plane_loop {G : pG} (b n : Nat) (f0 : Nat → pE) (hn : n + 75 ≤ 1000000) (hbn : b < n) (Q : Option Value → pW → Prop)
    (hQ : ∀ g : Nat → pE, g b = .inr (1, pfs n) → g n = .inl (4, 8, refs (pq n 8)) → (∀ i, i ≠ n → (i < n + 27 ∨ n + 75 ≤ i) → g i = f0 i) → (∀ q, q < 8 → QuadAt g (n + 27 + 6 * q) (n + 28 + 6 * q)) → Q none (n + 75, g)) :
    ∀ (j q : Nat), q + j = 8 → ∀ f : Nat → pE, f b = .inr (1, pfs n) → f n = .inl (4, 8, refs (pq n q)) → (∀ i, i ≠ n → (i < n + 27 ∨ n + 27 + 6 * q ≤ i) → f i = f0 i) → (∀ i, i < q → QuadAt f (n + 27 + 6 * i) (n + 28 + 6 * i)) →
    PW G M_Plane_init (rmD 2 75 336) (QM G Q 75 336) (27 + 6 * q) (200 + 17 * q) (38, [(0, .ref b), (1, .int (nI q))], [], (n + 27 + 6 * q, f)) := by
  intro j
  induction j with
  | zero =>
    intro q hq f hb hf hfr hqd
    have hq8 : q = 8 := by omega
    subst hq8
    refine P_iload_n d_Plane_init_38 rfl ?_
    refine P_bipush (v := 8) d_Plane_init_39 (by decide) ?_
    refine P_icmp_ge 63 d_Plane_init_41 (by decide) (fun _ => ?_) (fun h => absurd (by decide) h)
    exact P_vret d_Plane_init_63 rfl (le_b rfl) (le_b rfl) (hQ f hb hf hfr hqd)
  | succ j ih =>
    intro q hq f hb hf hfr hqd
    have hq8 : q < 8 := by omega
    refine P_iload_n d_Plane_init_38 rfl ?_
    refine P_bipush (v := 8) d_Plane_init_39 (by decide) ?_
    refine P_icmp_ge 63 d_Plane_init_41 (by decide) (fun h => absurd h (nI_ge (b := 8) hq8 (by decide))) (fun _ => ?_)
    refine P_aload_n d_Plane_init_44 rfl ?_
    refine P_getf (i := 0) d_Plane_init_45 ok_Plane (by decide) L_Plane_11 hb rfl ?_
    refine P_iload_n d_Plane_init_48 rfl ?_
    refine P_new (fs := [.null]) d_Plane_init_49 ok_Quad L_Plane_9 in_Quad.1 in_Quad.2 rfl (fun j hj => by rw [show j = 0 by omega]; rfl) (fun _ => rfl) (by show 27 + 6 * q + 1 ≤ 75; omega) (by show 200 + 17 * q + 1 ≤ 336; omega) (by show n + 27 + 6 * q < 1000000; omega) ?_
    refine P_dup d_Plane_init_52 rfl ?_
    refine P_callIN (M := M_Plane_init) (pc := 53) (as := []) (b := n + 27 + 6 * q) d_Plane_init_53 co_Quad_init rfl rfl L_Plane_25 im_Quad_init (c_Quad_init (n + 27 + 6 * q) (n + 27 + 6 * q + 1) _ (wu_s _ _ _) (by omega) (by omega)) rfl ⟨le_b rfl, le_b rfl⟩ ⟨by show 27 + 6 * q + 1 + 5 ≤ 75; omega, by show 200 + 17 * q + 1 + 16 ≤ 336; omega⟩ (le_b rfl) ?_ _ rfl
    rintro _ _ ⟨rfl, g, rfl, hg, hqa⟩
    have hb1 : g b = .inr (1, pfs n) := (hg b (by omega) (by omega)).trans ((wu_n (by show b ≠ n + 27 + 6 * q; omega)).trans hb)
    have hf1 : g n = .inl (4, 8, refs (pq n q)) := (hg n (by omega) (by omega)).trans ((wu_n (by show n ≠ n + 27 + 6 * q; omega)).trans hf)
    refine P_aast (j := q) (f := pq n q) (v := n + 27 + 6 * q) (r := n) d_Plane_init_56 hf1 (by omega) hqa.1 (ix_nI (by omega)) hq8 ?_
    refine P_iinc (v := nI (q + 1)) d_Plane_init_57 (by decide) rfl (nI_1 q) rfl ?_
    refine P_goto 38 d_Plane_init_60 (by decide) ?_
    rw [pq_up]
    refine ih (q + 1) (by omega) _ ((wu_n (by show b ≠ n; omega)).trans hb1) (wu_s _ _ _) (fun i h1 h2 => ?_) (fun i hi => ?_)
    · show wu g n _ i = f0 i
      rw [wu_n h1, hg i (by omega) (by omega)]
      show wu f (n + 27 + 6 * q) _ i = f0 i
      rw [wu_n (by omega)]
      exact hfr i h1 (by omega)
    · by_cases hiq : i = q
      · subst hiq
        rw [show n + 28 + 6 * i = n + 27 + 6 * i + 1 by omega]
        exact hqa.kept (g := wu g n (.inl (4, 8, refs (pq n (i + 1))))) (wu_n (by omega)) (fun z h1 h2 => wu_n (by omega))
      · refine (hqd i (by omega)).kept ?_ (fun z h1 h2 => ?_)
        · show wu g n _ _ = _
          rw [wu_n (by omega), hg _ (by omega) (by omega)]
          exact wu_n (by show _ ≠ n + 27 + 6 * q; omega)
        · show wu g n _ z = _
          rw [wu_n (by omega), hg z (by omega) (by omega)]
          exact wu_n (by show z ≠ n + 27 + 6 * q; omega)
theorem c_Plane_init {G : pG} (b n : Nat) (f : Nat → pE) (hb : f b = .inr (1, [.null, .null, .null, .int 0, .int 0, .int 0, .int 0])) (hn : n + 75 ≤ 1000000) (hbn : b < n) : PM G M_Plane_init 2 75 336 [.ref b] (n, f) (fun r w' => r = none ∧ ∃ g : Nat → pE, w' = (n + 75, g) ∧ (∀ i, i ≠ b → (i < n ∨ n + 75 ≤ i) → g i = f i) ∧ PlaneAt g b n) := by
  refine PM_of pn_Plane_init (le_b rfl) ?_
  show PW _ _ _ _ _ _ (0, [(0, .ref b)], [], (n, f))
  refine P_aload_n d_Plane_init_0 rfl ?_
  refine P_objInit d_Plane_init_1 L_Plane_3 im_objInit cd_objInit ⟨le_b rfl, le_b rfl⟩ (le_b rfl) ?_
  refine P_aload_n d_Plane_init_4 rfl ?_
  refine P_bipush (v := 8) d_Plane_init_5 (by decide) ?_
  refine P_anewQ (N := 8) d_Plane_init_7 L_Plane_9 ⟨by decide, by decide⟩ (le_b rfl) (le_b rfl) (le_b rfl) (by show n < 1000000; omega) ?_
  refine P_putF (i := 0) d_Plane_init_10 ok_Plane (by decide) rfl L_Plane_11 rfl rfl ((wu_n (by show b ≠ n; omega)).trans hb) (fun _ => rfl) (fun _ => rfl) ?_
  obtain ⟨f1, e1⟩ : ∃ f1, f1 = wu (wu f n (.inl (4, 8, .inr (.inr (.inr (.inr (fun _ => none))))))) b (.inr (1, [.ref n, .null, .null, .int 0, .int 0, .int 0, .int 0])) := ⟨_, rfl⟩
  have hb1 : f1 b = .inr (1, [.ref n, .null, .null, .int 0, .int 0, .int 0, .int 0]) := by rw [e1]; exact wu_s _ _ _
  have hn1 : f1 n = .inl (4, 8, refs (pq n 0)) := by
    rw [e1, wu_n (by omega), wu_s]
    exact congrArg (fun g => (Sum.inl (4, 8, refs g) : pE)) (funext fun i => (if_neg (Nat.not_lt_zero i)).symm)
  have ho1 : ∀ i, i ≠ b → i ≠ n → f1 i = f i := fun i h1 h2 => by rw [e1, wu_n h1, wu_n h2]
  show PW _ _ _ _ _ _ (13, [(0, .ref b)], [], (n + 1, wu (wu f n (.inl (4, 8, .inr (.inr (.inr (.inr (fun _ => none))))))) b (.inr (1, [.ref n, .null, .null, .int 0, .int 0, .int 0, .int 0]))))
  rw [← e1]
  refine P_aload_n d_Plane_init_13 rfl ?_
  refine P_bipush (v := 16) d_Plane_init_14 (by decide) ?_
  refine P_bipush (v := 9) d_Plane_init_16 (by decide) ?_
  refine P_mnew (N := 16) (K := 9) d_Plane_init_18 L_Plane_17 ac_long ⟨by decide, by decide⟩ ⟨by decide, by decide⟩ (le_b rfl) (le_b rfl) (le_b rfl) (le_b rfl) (by show n + 1 + 1 + 16 ≤ 1000000; omega) ?_
  refine P_putF (i := 1) d_Plane_init_22 ok_Plane (by decide) rfl L_Plane_19 rfl rfl ((wr_out (by show ¬ (n + 1 + 1 ≤ b ∧ b < n + 1 + 1 + 16); omega)).trans ((wu_n (by show b ≠ n + 1; omega)).trans hb1)) (fun _ => rfl) (fun _ => rfl) ?_
  obtain ⟨f2, e2⟩ : ∃ f2, f2 = wu (wr (wu f1 (n + 1) (.inl (3, 16, .inr (.inr (.inr (.inr (rows_of (n + 1) 16))))))) (n + 1 + 1) (n + 1 + 1 + 16) (.inl (1, 9, .inr (.inl (fun _ => 0))))) b (.inr (1, [.ref n, .ref (n + 1), .null, .int 0, .int 0, .int 0, .int 0])) := ⟨_, rfl⟩
  have hb2 : f2 b = .inr (1, [.ref n, .ref (n + 1), .null, .int 0, .int 0, .int 0, .int 0]) := by rw [e2]; exact wu_s _ _ _
  have hm2 : f2 (n + 1) = .inl (3, 16, refs (rows_of (n + 1) 16)) := by rw [e2, wu_n (by omega), wr_out (by omega), wu_s]; rfl
  have hr2 : ∀ i, i < 16 → f2 (n + 2 + i) = z9 := fun i hi => by rw [e2, wu_n (by omega), wr_in (by omega) (by omega)]; rfl
  have ho2 : ∀ i, i ≠ b → (i < n + 1 ∨ n + 18 ≤ i) → f2 i = f1 i := fun i h1 h2 => by rw [e2, wu_n h1, wr_out (by omega), wu_n (by omega)]
  show PW _ _ _ _ _ _ (25, [(0, .ref b)], [], (n + 18, wu (wr (wu f1 (n + 1) (.inl (3, 16, .inr (.inr (.inr (.inr (rows_of (n + 1) 16))))))) (n + 1 + 1) (n + 1 + 1 + 16) (.inl (1, 9, .inr (.inl (fun _ => 0))))) b (.inr (1, [.ref n, .ref (n + 1), .null, .int 0, .int 0, .int 0, .int 0]))))
  rw [← e2]
  refine P_aload_n d_Plane_init_25 rfl ?_
  refine P_bipush (v := 8) d_Plane_init_26 (by decide) ?_
  refine P_iconst (v := 3) d_Plane_init_28 (by decide) ?_
  refine P_mnew (N := 8) (K := 3) d_Plane_init_29 L_Plane_17 ac_long ⟨by decide, by decide⟩ ⟨by decide, by decide⟩ (le_b rfl) (le_b rfl) (le_b rfl) (le_b rfl) (by show n + 18 + 1 + 8 ≤ 1000000; omega) ?_
  refine P_putF (i := 2) d_Plane_init_33 ok_Plane (by decide) rfl L_Plane_22 rfl rfl ((wr_out (by show ¬ (n + 18 + 1 ≤ b ∧ b < n + 18 + 1 + 8); omega)).trans ((wu_n (by show b ≠ n + 18; omega)).trans hb2)) (fun _ => rfl) (fun _ => rfl) ?_
  obtain ⟨f3, e3⟩ : ∃ f3, f3 = wu (wr (wu f2 (n + 18) (.inl (3, 8, .inr (.inr (.inr (.inr (rows_of (n + 18) 8))))))) (n + 18 + 1) (n + 18 + 1 + 8) (.inl (1, 3, .inr (.inl (fun _ => 0))))) b (.inr (1, pfs n)) := ⟨_, rfl⟩
  have hb3 : f3 b = .inr (1, pfs n) := by rw [e3]; exact wu_s _ _ _
  have hm3 : f3 (n + 18) = .inl (3, 8, refs (rows_of (n + 18) 8)) := by rw [e3, wu_n (by omega), wr_out (by omega), wu_s]; rfl
  have hr3 : ∀ i, i < 8 → f3 (n + 19 + i) = z3 := fun i hi => by rw [e3, wu_n (by omega), wr_in (by omega) (by omega)]; rfl
  have ho3 : ∀ i, i ≠ b → (i < n + 18 ∨ n + 27 ≤ i) → f3 i = f2 i := fun i h1 h2 => by rw [e3, wu_n h1, wr_out (by omega), wu_n (by omega)]
  show PW _ _ _ _ _ _ (36, [(0, .ref b)], [], (n + 27, wu (wr (wu f2 (n + 18) (.inl (3, 8, .inr (.inr (.inr (.inr (rows_of (n + 18) 8))))))) (n + 18 + 1) (n + 18 + 1 + 8) (.inl (1, 3, .inr (.inl (fun _ => 0))))) b (.inr (1, pfs n))))
  rw [← e3]
  refine P_iconst (v := 0) d_Plane_init_36 (by decide) ?_
  refine P_istore_n d_Plane_init_37 (by decide) rfl ?_
  have hn3 : f3 n = .inl (4, 8, refs (pq n 0)) := by rw [ho3 n (by omega) (by omega), ho2 n (by omega) (by omega)]; exact hn1
  refine plane_loop b n f3 hn hbn _ (fun g g1 g2 g3 g4 => ⟨rfl, g, rfl, fun i h1 h2 => ?_, g1, g2, ?_, fun i hi => ?_, ?_, fun i hi => ?_, g4⟩) 8 0 rfl f3 hb3 hn3 (fun _ _ _ => rfl) (fun i hi => absurd hi (Nat.not_lt_zero i))
  · rw [g3 i (by omega) (by omega), ho3 i h1 (by omega), ho2 i h1 (by omega), ho1 i h1 (by omega)]
  · rw [g3 _ (by omega) (by omega), ho3 _ (by omega) (by omega)]; exact hm2
  · rw [g3 _ (by omega) (by omega), ho3 _ (by omega) (by omega)]; exact hr2 i hi
  · rw [g3 _ (by omega) (by omega)]; exact hm3
  · rw [g3 _ (by omega) (by omega)]; exact hr3 i hi
