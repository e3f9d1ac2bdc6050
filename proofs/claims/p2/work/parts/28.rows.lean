/-! rows with named worlds; loops; rows of numbers: divisors, REDUCED (declarations by program) -/
section
variable {G : pG} {M : pM} {R : Room} {QF : List Frame → Array Value → State → State → Prop} {k n pc : Nat} {lv : List (Nat × Value)} {st : List Value} {w : pW}
theorem P_putG {ci N i index r : Nat} {C : String} {T : u_T} {ty : Nat → FieldType} {fs : List Value} {v : Value} (d : decode M.2.1 pc = .ok (.putfield index, 3)) (ok : COK ci C T N ty) (hk : i < N) (hfin : (T i).2.2.2 = false) (hlink : Cond.fieldLink M.1.cls index (T i).1 (T i).2.1 (T i).2.2.1 ∈ gtbl) (hw : w.2 r = .inr (ci, fs)) (hn : ∀ f, narrow (ty i) (tv f v) = tv f v) (hfit : ∀ f, fits (ty i) (tv f v) = true)
    (kk : ∀ w1 : pW, w1 = (w.1, wu w.2 r (.inr (ci, fs.set i v))) → w1.2 r = .inr (ci, fs.set i v) → (∀ q, q ≠ r → w1.2 q = w.2 q) → w1.1 = w.1 → PW G M R QF k n (pc + 3, lv, st, w1)) : PW G M R QF k n (pc, lv, v :: .ref r :: st, w) :=
  P_put d ok hk hfin hlink hw hn hfit (kk _ rfl (wu_s _ _ _) (fun q h => wu_n h) rfl)
theorem P_putNG {ci N i index r : Nat} {C host : String} {T : u_T} {ty : Nat → FieldType} {fs : List Value} {v : Value} (d : decode M.2.1 pc = .ok (.putfield index, 3)) (ok : COK ci C T N ty) (hk : i < N) (hfin : (T i).2.2.2 = false) (hlink : Cond.fieldLinkNest M.1.cls index (T i).1 (T i).2.1 (T i).2.2.1 host ∈ ntbl) (hw : w.2 r = .inr (ci, fs)) (hn : ∀ f, narrow (ty i) (tv f v) = tv f v) (hfit : ∀ f, fits (ty i) (tv f v) = true)
    (kk : ∀ w1 : pW, w1 = (w.1, wu w.2 r (.inr (ci, fs.set i v))) → w1.2 r = .inr (ci, fs.set i v) → (∀ q, q ≠ r → w1.2 q = w.2 q) → w1.1 = w.1 → PW G M R QF k n (pc + 3, lv, st, w1)) : PW G M R QF k n (pc, lv, v :: .ref r :: st, w) :=
  P_putN d ok hk hfin hlink hw hn hfit (kk _ rfl (wu_s _ _ _) (fun q h => wu_n h) rfl)
theorem P_iastG {i x : Int32} {j r a : Nat} {f : Nat → Int32} (d : decode M.2.1 pc = .ok (.iastore, 1)) (hw : w.2 r = .inl (0, a, .inl f)) (hr : r < 1000000) (hi : ix i j) (hj : j < a)
    (kk : ∀ w1 : pW, w1 = (w.1, wu w.2 r (.inl (0, a, .inl (upd f j x)))) → w1.2 r = .inl (0, a, .inl (upd f j x)) → (∀ q, q ≠ r → w1.2 q = w.2 q) → w1.1 = w.1 → PW G M R QF k n (pc + 1, lv, st, w1)) : PW G M R QF k n (pc, lv, .int x :: .int i :: .ref r :: st, w) :=
  P_iast d hw hr hi hj (kk _ rfl (wu_s _ _ _) (fun q h => wu_n h) rfl)
theorem P_lastG {i : Int32} {x : Int64} {j r a : Nat} {f : Nat → Int64} (d : decode M.2.1 pc = .ok (.lastore, 1)) (hw : w.2 r = .inl (1, a, .inr (.inl f))) (hr : r < 1000000) (hi : ix i j) (hj : j < a)
    (kk : ∀ w1 : pW, w1 = (w.1, wu w.2 r (.inl (1, a, .inr (.inl (vp_updL f j x))))) → w1.2 r = .inl (1, a, .inr (.inl (vp_updL f j x))) → (∀ q, q ≠ r → w1.2 q = w.2 q) → w1.1 = w.1 → PW G M R QF k n (pc + 1, lv, st, w1)) : PW G M R QF k n (pc, lv, .long x :: .int i :: .ref r :: st, w) :=
  P_last d hw hr hi hj (kk _ rfl (wu_s _ _ _) (fun q h => wu_n h) rfl)
theorem P_copylG {index a b na nb : Nat} {sp dp nn : Int32} {i j q : Nat} {f g : Nat → Int64} (d : decode M.2.1 pc = .ok (.invokestatic index, 3)) (hlk : Cond.methodLink M.1.cls index arraycopyName ∈ gtbl) (hna : Cond.native arraycopyName ∈ gtbl) (hst : Cond.static arraycopyName ∈ gtbl) (hini : Cond.initialized "java/lang/System" ∈ gtbl)
    (ha : w.2 a = .inl (1, na, .inr (.inl f))) (hb : w.2 b = .inl (1, nb, .inr (.inl g))) (hbx : b < 1000000) (hi : ix sp i) (hj : ix dp j) (hq : ix nn q) (h4 : i + q ≤ na) (h5 : j + q ≤ nb) (hR : 1 ≤ R.frames ∧ 60 ≤ R.locals) (hcat : (st.map Value.category).sum ≤ 8)
    (kk : ∀ w1 : pW, w1 = (w.1, wu w.2 b (.inl (1, nb, .inr (.inl (va_cpy f g i j q))))) → w1.2 b = .inl (1, nb, .inr (.inl (va_cpy f g i j q))) → (∀ q, q ≠ b → w1.2 q = w.2 q) → w1.1 = w.1 → PW G M R QF k n (pc + 3, lv, st, w1)) : PW G M R QF k n (pc, lv, .int nn :: .int dp :: .ref b :: .int sp :: .ref a :: st, w) :=
  P_copyl d hlk hna hst hini ha hb hbx hi hj hq h4 h5 hR hcat (kk _ rfl (wu_s _ _ _) (fun q h => wu_n h) rfl)
theorem w_s {w u : pW} {r : Nat} {e : pE} (h : u = (w.1, wu w.2 r e)) : u.2 r = e := by
  subst h
  exact wu_s w.2 r e
theorem w_n {w u : pW} {r : Nat} {e : pE} (h : u = (w.1, wu w.2 r e)) : ∀ q, q ≠ r → u.2 q = w.2 q := by
  subst h
  exact fun q hq => wu_n hq
theorem w_z {w u : pW} {r : Nat} {e : pE} (h : u = (w.1, wu w.2 r e)) : u.1 = w.1 := by rw [h]
/-- a loop that counts from j up to N, with a state -/
theorem PW_ind {σ : Type} (N : Nat) (P : Nat → σ → Prop) (C : Nat → σ → pC) (out : ∀ s, P N s → PW G M R QF k n (C N s)) (step : ∀ j s, j < N → P j s → (∀ s', P (j + 1) s' → PW G M R QF k n (C (j + 1) s')) → PW G M R QF k n (C j s)) : ∀ (j : Nat) (s : σ), j ≤ N → P j s → PW G M R QF k n (C j s) := by
  have : ∀ d j s, j + d = N → P j s → PW G M R QF k n (C j s) := by
    intro d
    induction d with
    | zero => intro j s h hp; have e : j = N := by omega
              rw [e] at hp ⊢
              exact out s hp
    | succ d ih => intro j s h hp; exact step j s (by omega) hp (fun s' hs => ih (j + 1) s' (by omega) hs)
  intro j s h hp
  exact this (N - j) j s (by omega) hp
/-- a loop with a measure that falls -/
theorem PW_meas {σ : Type} (μ : σ → Nat) (P : σ → Prop) (C : σ → pC) (step : ∀ s, P s → (∀ s', μ s' < μ s → P s' → PW G M R QF k n (C s')) → PW G M R QF k n (C s)) : ∀ s : σ, P s → PW G M R QF k n (C s) := by
  have : ∀ d s, μ s < d → P s → PW G M R QF k n (C s) := by
    intro d
    induction d with
    | zero => intro s h; exact absurd h (Nat.not_lt_zero _)
    | succ d ih => intro s h hp; exact step s hp (fun s' h1 hs => ih s' (by omega) hs)
  intro s hp
  exact this (μ s + 1) s (Nat.lt_succ_self _) hp
end
theorem cmp_eq {x y : Int64} (h : lg_cmp x y = 0) : x = y := by
  unfold lg_cmp at h
  split at h
  · exact absurd h (by decide)
  · split at h
    · assumption
    · exact absurd h (by decide)
theorem cmp_ne {x y : Int64} (h : ¬ lg_cmp x y = 0) : ¬ x = y := by
  intro e
  apply h
  unfold lg_cmp
  rw [e, if_neg (show ¬ y > y from fun g => Int64.lt_irrefl g), if_pos rfl]
theorem cmp_ge {x y : Int64} (h : 0 ≤ lg_cmp x y) : ¬ x < y := by
  intro e
  unfold lg_cmp at h
  rw [if_neg (show ¬ x > y from fun g => Int64.lt_irrefl (Int64.lt_trans e g)), if_neg (fun g => by rw [g] at e; exact Int64.lt_irrefl e)] at h
  exact absurd h (by decide)
theorem cmp_nge {x y : Int64} (h : ¬ 0 ≤ lg_cmp x y) : x < y := by
  unfold lg_cmp at h
  split at h
  · exact absurd (by decide) h
  · split at h
    · exact absurd (by decide) h
    · rename_i h1 h2
      exact Int64.lt_of_le_of_ne (Int64.not_lt.mp h1) h2
theorem nI_dn (i : Nat) : nI (i + 1) + -1 = nI i := by
  rw [nI_succ, Int32.add_assoc]
  exact Int32.add_zero _
def absL (x : Int64) : Int64 := if 0 < x then x else -x
/-- the greatest divisor of two, in at most so many steps -/
def euS : Nat → Int64 → Int64 → Int64
  | 0, x, _ => x
  | n + 1, x, y => if y = 0 then x else euS n y (x - x / y * y)
theorem euS_z (n : Nat) (x : Int64) : euS n x 0 = x := by cases n <;> rfl
theorem euS_s {N j : Nat} {x y : Int64} (h : j < N) (hy : ¬ y = 0) : euS (N - j) x y = euS (N - (j + 1)) y (x - x / y * y) := by
  rw [show N - j = (N - (j + 1)) + 1 by omega]
  exact if_neg hy
/-- the place of the last that isn't 0 -/
def lpF (f : Nat → Int64) : Nat → Nat
  | 0 => 0
  | j + 1 => if f (j + 1) = 0 then lpF f j else j + 1
theorem lpF_0 {f : Nat → Int64} {j : Nat} (h : f (j + 1) = 0) : lpF f (j + 1) = lpF f j := if_pos h
theorem lpF_1 {f : Nat → Int64} {j : Nat} (h : ¬ f (j + 1) = 0) : lpF f (j + 1) = j + 1 := if_neg h
theorem lpF_le (f : Nat → Int64) : ∀ j, lpF f j ≤ j
  | 0 => Nat.le_refl 0
  | j + 1 => by
    unfold lpF
    split
    · exact Nat.le_succ_of_le (lpF_le f j)
    · exact Nat.le_refl _
theorem lpF_lt {f : Nat → Int64} {N : Nat} (h : 0 < N) : lpF f (N - 1) < N := Nat.lt_of_le_of_lt (lpF_le f _) (by omega)
/-- the divisor of a row, as long as it isn't 1 -/
def gC (f : Nat → Int64) : Nat → Nat → Int64 → Int64
  | 0, _, b => b
  | n + 1, j, b => if b = 1 then b else gC f n (j + 1) (euS 1000 (absL b) (absL (f j)))
theorem gC_1 {f : Nat → Int64} {N j : Nat} {b : Int64} (hj : j < N) (h : b = 1) : gC f (N - j) j b = b := by
  rw [show N - j = (N - (j + 1)) + 1 by omega]
  exact if_pos h
theorem gC_s {f : Nat → Int64} {N j : Nat} {b : Int64} (hj : j < N) (h : ¬ b = 1) : gC f (N - j) j b = gC f (N - (j + 1)) (j + 1) (euS 1000 (absL b) (absL (f j))) := by
  rw [show N - j = (N - (j + 1)) + 1 by omega]
  exact if_neg h
def byC (N : Nat) (f : Nat → Int64) : Int64 := if f (lpF f (N - 1)) < 0 then -gC f N 0 0 else gC f N 0 0
def dvF (f : Nat → Int64) (b : Int64) (j : Nat) : Nat → Int64 := fun i => if i < j then f i / b else f i
def rdC (N : Nat) (f : Nat → Int64) : Nat → Int64 := if byC N f = 0 ∨ byC N f = 1 then f else dvF f (byC N f) N
theorem rdC_s {N : Nat} {f : Nat → Int64} (h : byC N f = 0 ∨ byC N f = 1) : rdC N f = f := if_pos h
theorem rdC_d {N : Nat} {f : Nat → Int64} (h0 : ¬ byC N f = 0) (h1 : ¬ byC N f = 1) : rdC N f = dvF f (byC N f) N := if_neg (fun h => h.elim h0 h1)
theorem dvF_0 (f : Nat → Int64) (b : Int64) : dvF f b 0 = f := funext fun i => if_neg (Nat.not_lt_zero i)
theorem dvF_at (f : Nat → Int64) (b : Int64) (j : Nat) : dvF f b j j = f j := if_neg (Nat.lt_irrefl j)
theorem wu_wu (f : Nat → pE) (r : Nat) (a b : pE) : wu (wu f r a) r b = wu f r b := by
  funext i
  unfold wu
  split <;> rfl
theorem dvF_s (f : Nat → Int64) (b : Int64) (j : Nat) : vp_updL (dvF f b j) j (dvF f b j j / b) = dvF f b (j + 1) := by
  funext i
  rw [dvF_at]
  unfold vp_updL dvF
  by_cases h : i = j
  · rw [if_pos h, if_pos (by omega), h]
  · rw [if_neg h]
    by_cases h1 : i < j
    · rw [if_pos h1, if_pos (by omega)]
    · rw [if_neg h1, if_neg (by omega)]
theorem dv_step (g : Nat → pE) (r N : Nat) (f : Nat → Int64) (b : Int64) (j : Nat) (_ : j < N) : wu (wu g r (.inl (1, N, .inr (.inl (dvF f b j))))) r (.inl (1, N, .inr (.inl (vp_updL (dvF f b j) j (dvF f b j j / b))))) = wu g r (.inl (1, N, .inr (.inl (dvF f b (j + 1))))) := by
  rw [wu_wu, dvF_s]
def p3 (f : Nat → Int64) (x y z : Int64) : Nat → Int64 := vp_updL (vp_updL (vp_updL f 0 x) 1 y) 2 z
theorem wu_3 (g : Nat → pE) (r : Nat) (a b c : pE) : wu (wu (wu g r a) r b) r c = wu g r c := by rw [wu_wu, wu_wu]
theorem rem64 (x y : Int64) : x - x / y * y = x % y := by
  apply Int64.toInt_inj.mp
  rw [Int64.toInt_sub, Int64.toInt_mul, Int64.toInt_div, Int64.toInt_mod, Int.bmod_mul_bmod, Int.sub_bmod_bmod]
  rw [show x.toInt - x.toInt.tdiv y.toInt * y.toInt = x.toInt.tmod y.toInt by rw [Int.tmod_def, Int.mul_comm]]
  rw [← Int64.toInt_mod]
  exact Int64.toInt_bmod _
theorem rem_less {x y : Int64} (h : ¬ y = 0) : (x - x / y * y).toInt.natAbs < y.toInt.natAbs := by
  rw [rem64, Int64.toInt_mod, Int.natAbs_tmod]
  apply Nat.mod_lt
  apply Nat.pos_of_ne_zero
  intro e
  apply h
  apply Int64.toInt_inj.mp
  rw [Int.natAbs_eq_zero.mp e]
  rfl
theorem neg_ne {b : Int64} (h : ¬ b = 0) : ¬ -b = 0 := fun e => h (by rw [← Int64.neg_neg (a := b), e]; rfl)
def bi (b : Bool) : Int32 := if b = true then 1 else 0
theorem bi_0 {b : Bool} (h : bi b = 0) : b = false := by
  cases b
  · rfl
  · exact absurd h (by decide)
theorem bi_1 {b : Bool} (h : ¬ bi b = 0) : b = true := by
  cases b
  · exact absurd rfl h
  · rfl
def edge (a : Int32) : Bool := !(decide (a < -9999)) && !(decide (9999 < a))
def edge3 (x y z : Int32) : Bool := edge x && edge y && edge z
def some3 (x y z : Int32) : Bool := !(decide (x = 0) && decide (y = 0) && decide (z = 0))
theorem v_Rows_divisor {G : pG} {w : pW} (a b : Int64) : PM G M_Rows_divisor 1 0 0 [.long a, .long b] w (fun r w' => r = some (.long (euS 1000 (absL a) (absL b))) ∧ w' = w) := by
  refine PM_of pn_Rows_divisor (le_b rfl) ?_
  show PW _ _ _ _ _ _ (0, [(0, .long a), (2, .long b)], [], w)
  refine P_lload_n d_Rows_divisor_0 rfl ?_
  refine P_mabsl d_Rows_divisor_1 L_Rows_9 st_abs in_Math cd_abs ⟨by decide, by decide, by decide, by decide⟩ (by exact le_b rfl) ?_
  show PW _ _ _ _ _ _ (4, [(0, .long a), (2, .long b)], [.long (absL a)], w)
  refine P_lstore d_Rows_divisor_4 (by decide) rfl ?_
  refine P_lload_n d_Rows_divisor_6 rfl ?_
  refine P_mabsl d_Rows_divisor_7 L_Rows_9 st_abs in_Math cd_abs ⟨by decide, by decide, by decide, by decide⟩ (by exact le_b rfl) ?_
  show PW _ _ _ _ _ _ (10, [(0, .long a), (2, .long b), (4, .long (absL a))], [.long (absL b)], w)
  refine P_lstore d_Rows_divisor_10 (by decide) rfl ?_
  refine P_iconst (v := 0) d_Rows_divisor_12 (by decide) ?_
  refine P_istore d_Rows_divisor_13 (by decide) rfl ?_
  refine PW_ind (σ := Int64 × Int64) 1000 (fun j s => euS (1000 - j) s.1 s.2 = euS 1000 (absL a) (absL b)) (fun j s => (15, [(0, .long a), (2, .long b), (4, .long s.1), (6, .long s.2), (8, .int (nI j))], [], w)) ?_ ?_ 0 (absL a, absL b) (by omega) rfl
  · rintro ⟨x, y⟩ hv
    replace hv : euS (1000 - 1000) x y = euS 1000 (absL a) (absL b) := hv
    show PW _ _ _ _ _ _ (15, [(0, .long a), (2, .long b), (4, .long x), (6, .long y), (8, .int 1000)], [], w)
    refine P_iload d_Rows_divisor_15 rfl ?_
    refine P_sipush (v := 1000) d_Rows_divisor_17 (by decide) ?_
    refine P_icmp_ge 51 d_Rows_divisor_20 (by decide) (fun _ => ?_) (fun h => absurd (by decide) h)
    refine P_lload d_Rows_divisor_51 rfl ?_
    exact P_lret d_Rows_divisor_53 rfl (le_b rfl) (le_b rfl) ⟨by rw [show x = _ from hv], rfl⟩
  · rintro j ⟨x, y⟩ hj hv kk
    replace hv : euS (1000 - j) x y = euS 1000 (absL a) (absL b) := hv
    show PW _ _ _ _ _ _ (15, [(0, .long a), (2, .long b), (4, .long x), (6, .long y), (8, .int (nI j))], [], w)
    refine P_iload d_Rows_divisor_15 rfl ?_
    refine P_sipush (v := 1000) d_Rows_divisor_17 (by decide) ?_
    refine P_icmp_ge 51 d_Rows_divisor_20 (by decide) (fun h => absurd h (nI_ge hj (by decide))) (fun _ => ?_)
    refine P_lload d_Rows_divisor_23 rfl ?_
    refine P_lconst (v := 0) d_Rows_divisor_25 (by decide) ?_
    refine P_lcmp d_Rows_divisor_26 ?_
    refine P_if_eq 51 d_Rows_divisor_27 (by decide) (fun c1 => ?_) (fun c1 => ?_)
    · refine P_lload d_Rows_divisor_51 rfl ?_
      exact P_lret d_Rows_divisor_53 rfl (le_b rfl) (le_b rfl) ⟨by rw [← hv, cmp_eq c1, euS_z], rfl⟩
    · refine P_lload d_Rows_divisor_30 rfl ?_
      refine P_lload d_Rows_divisor_32 rfl ?_
      refine P_lrem d_Rows_divisor_34 (cmp_ne c1) ?_
      refine P_lstore d_Rows_divisor_35 (by decide) rfl ?_
      refine P_lload d_Rows_divisor_37 rfl ?_
      refine P_lstore d_Rows_divisor_39 (by decide) rfl ?_
      refine P_lload d_Rows_divisor_41 rfl ?_
      refine P_lstore d_Rows_divisor_43 (by decide) rfl ?_
      refine P_iinc (v := nI (j + 1)) d_Rows_divisor_45 (by decide) rfl (nI_succ j).symm rfl ?_
      refine P_goto 15 d_Rows_divisor_48 (by decide) ?_
      show PW _ _ _ _ _ _ (15, [(0, .long a), (2, .long b), (4, .long y), (6, .long (x - x / y * y)), (8, .int (nI (j + 1))), (9, .long (x - x / y * y))], [], w)
      refine PW.drop (lv' := [(0, .long a), (2, .long b), (4, .long y), (6, .long (x - x / y * y)), (8, .int (nI (j + 1)))]) (by simp) ?_
      exact kk (y, x - x / y * y) ((euS_s hj (cmp_ne c1)).symm.trans hv)
theorem v_Rows_lastPlace {G : pG} {w : pW} {r N : Nat} {f : Nat → Int64} (hr : w.2 r = .inl (1, N, .inr (.inl f))) (h0 : 0 < N) (hN : N < 1000000) : PM G M_Rows_lastPlace 0 0 0 [.ref r] w (fun r w' => r = some (.int (nI (lpF f (N - 1)))) ∧ w' = w) := by
  refine PM_of pn_Rows_lastPlace (le_b rfl) ?_
  show PW _ _ _ _ _ _ (0, [(0, .ref r)], [], w)
  refine P_aload_n d_Rows_lastPlace_0 rfl ?_
  refine P_alen (v := nI N) d_Rows_lastPlace_1 hr rfl ?_
  refine P_iconst (v := 1) d_Rows_lastPlace_2 (by decide) ?_
  refine P_isub d_Rows_lastPlace_3 ?_
  rw [show nI N - 1 = nI (N - 1) from by rw [← nI_pred (N - 1)]; congr 2; omega]
  refine P_istore_n d_Rows_lastPlace_4 (by decide) rfl ?_
  have L : ∀ i, i < N → lpF f i = lpF f (N - 1) → PW G M_Rows_lastPlace (rmD 0 0 0) (QM G (fun r w' => r = some (.int (nI (lpF f (N - 1)))) ∧ w' = w) 0 0) 0 0 (5, [(0, .ref r), (1, .int (nI i))], [], w) := by
    intro i
    induction i with
    | zero =>
      intro hi hv
      show PW _ _ _ _ _ _ (5, [(0, .ref r), (1, .int 0)], [], w)
      refine P_iload_n d_Rows_lastPlace_5 rfl ?_
      refine P_if_le 25 d_Rows_lastPlace_6 (by decide) (fun _ => ?_) (fun h => absurd (by decide) h)
      refine P_iconst (v := 0) d_Rows_lastPlace_25 (by decide) ?_
      exact P_iret d_Rows_lastPlace_26 rfl (le_b rfl) (le_b rfl) ⟨by rw [← hv]; rfl, rfl⟩
    | succ i ih =>
      intro hi hv
      refine P_iload_n d_Rows_lastPlace_5 rfl ?_
      refine P_if_le 25 d_Rows_lastPlace_6 (by decide) (fun h => absurd h (nI_nle (by omega) (by omega))) (fun _ => ?_)
      refine P_aload_n d_Rows_lastPlace_9 rfl ?_
      refine P_iload_n d_Rows_lastPlace_10 rfl ?_
      refine P_lald (j := (i + 1)) d_Rows_lastPlace_11 hr (ix_nI (by omega)) (by omega) ?_
      refine P_lconst (v := 0) d_Rows_lastPlace_12 (by decide) ?_
      refine P_lcmp d_Rows_lastPlace_13 ?_
      refine P_if_eq 19 d_Rows_lastPlace_14 (by decide) (fun c1 => ?_) (fun c1 => ?_)
      · refine P_iinc (v := nI i) d_Rows_lastPlace_19 (by decide) rfl (nI_dn i) rfl ?_
        refine P_goto 5 d_Rows_lastPlace_22 (by decide) ?_
        exact ih (by omega) ((lpF_0 (cmp_eq c1)).symm.trans hv)
      · refine P_iload_n d_Rows_lastPlace_17 rfl ?_
        exact P_iret d_Rows_lastPlace_18 rfl (le_b rfl) (le_b rfl) ⟨by rw [← hv, lpF_1 (cmp_ne c1)], rfl⟩
  exact L (N - 1) (by omega) rfl
theorem v_Rows_reduce {G : pG} {w : pW} {r N : Nat} {f : Nat → Int64} (hr : w.2 r = .inl (1, N, .inr (.inl f))) (h0 : 0 < N) (hN : N < 1000000) (hx : r < 1000000) : PM G M_Rows_reduce 2 0 0 [.ref r] w (fun r' w' => r' = none ∧ w' = (w.1, wu w.2 r (.inl (1, N, .inr (.inl (rdC N f)))))) := by
  refine PM_of pn_Rows_reduce (le_b rfl) ?_
  show PW _ _ _ _ _ _ (0, [(0, .ref r)], [], w)
  have K59 : ∀ b : Int64, ¬ b = 0 → dvF f b N = rdC N f → PW G M_Rows_reduce (rmD 2 0 0) (QM G (fun r' w' => r' = none ∧ w' = (w.1, wu w.2 r (.inl (1, N, .inr (.inl (rdC N f)))))) 0 0) 0 0 (59, [(0, .ref r), (1, .long b), (3, .int 0)], [], w) := by
    intro b hb hv
    refine PW_ind (σ := pW) N (fun j u => u = (w.1, wu w.2 r (.inl (1, N, .inr (.inl (dvF f b j)))))) (fun j u => (59, [(0, .ref r), (1, .long b), (3, .int (nI j))], [], u)) ?_ ?_ 0 w (by omega) (by rw [dvF_0, wu_same hr])
    · intro u eu
      replace eu : u = (w.1, wu w.2 r (.inl (1, N, .inr (.inl (dvF f b N))))) := eu
      show PW _ _ _ _ _ _ (59, [(0, .ref r), (1, .long b), (3, .int (nI N))], [], u)
      have hr1 : u.2 r = .inl (1, N, .inr (.inl (dvF f b N))) := w_s eu
      refine P_iload_n d_Rows_reduce_59 rfl ?_
      refine P_aload_n d_Rows_reduce_60 rfl ?_
      refine P_alen (v := nI N) d_Rows_reduce_61 hr1 rfl ?_
      refine P_icmp_ge 78 d_Rows_reduce_62 (by decide) (fun _ => ?_) (fun h => absurd (Int32.le_refl _) h)
      exact P_vret d_Rows_reduce_78 rfl (le_b rfl) (le_b rfl) ⟨rfl, by rw [eu, hv]⟩
    · intro j u hj eu kk
      replace eu : u = (w.1, wu w.2 r (.inl (1, N, .inr (.inl (dvF f b j))))) := eu
      show PW _ _ _ _ _ _ (59, [(0, .ref r), (1, .long b), (3, .int (nI j))], [], u)
      have hr1 : u.2 r = .inl (1, N, .inr (.inl (dvF f b j))) := w_s eu
      refine P_iload_n d_Rows_reduce_59 rfl ?_
      refine P_aload_n d_Rows_reduce_60 rfl ?_
      refine P_alen (v := nI N) d_Rows_reduce_61 hr1 rfl ?_
      refine P_icmp_ge 78 d_Rows_reduce_62 (by decide) (fun h => absurd h (nI_ge hj (by omega))) (fun _ => ?_)
      refine P_aload_n d_Rows_reduce_65 rfl ?_
      refine P_iload_n d_Rows_reduce_66 rfl ?_
      refine P_dup2 d_Rows_reduce_67 rfl rfl ?_
      refine P_lald (j := j) d_Rows_reduce_68 hr1 (ix_nI (by omega)) (by omega) ?_
      refine P_lload_n d_Rows_reduce_69 rfl ?_
      refine P_ldiv d_Rows_reduce_70 hb ?_
      refine P_lastG (j := j) d_Rows_reduce_71 hr1 (by omega) (ix_nI (by omega)) (by omega) (fun w1 e1 s1 n1 z1 => ?_)
      show PW _ _ _ _ _ _ (72, [(0, .ref r), (1, .long b), (3, .int (nI j))], [], w1)
      refine P_iinc (v := nI (j + 1)) d_Rows_reduce_72 (by decide) rfl (nI_succ j).symm rfl ?_
      refine P_goto 59 d_Rows_reduce_75 (by decide) ?_
      exact kk w1 (by rw [e1, eu]; exact congrArg (Prod.mk w.1) (dv_step w.2 r N f b j hj))
  have K44 : PW G M_Rows_reduce (rmD 2 0 0) (QM G (fun r' w' => r' = none ∧ w' = (w.1, wu w.2 r (.inl (1, N, .inr (.inl (rdC N f)))))) 0 0) 0 0 (44, [(0, .ref r), (1, .long (byC N f))], [], w) := by
    refine P_lload_n d_Rows_reduce_44 rfl ?_
    refine P_lconst (v := 0) d_Rows_reduce_45 (by decide) ?_
    refine P_lcmp d_Rows_reduce_46 ?_
    refine P_if_eq 56 d_Rows_reduce_47 (by decide) (fun c1 => ?_) (fun c1 => ?_)
    · exact P_vret d_Rows_reduce_56 rfl (le_b rfl) (le_b rfl) ⟨rfl, by rw [rdC_s (Or.inl (cmp_eq c1)), wu_same hr]⟩
    · refine P_lload_n d_Rows_reduce_50 rfl ?_
      refine P_lconst (v := 1) d_Rows_reduce_51 (by decide) ?_
      refine P_lcmp d_Rows_reduce_52 ?_
      refine P_if_ne 57 d_Rows_reduce_53 (by decide) (fun c2 => ?_) (fun c2 => ?_)
      · refine P_iconst (v := 0) d_Rows_reduce_57 (by decide) ?_
        refine P_istore_n d_Rows_reduce_58 (by decide) rfl ?_
        exact K59 _ (cmp_ne c1) (rdC_d (cmp_ne c1) (cmp_ne c2)).symm
      · exact P_vret d_Rows_reduce_56 rfl (le_b rfl) (le_b rfl) ⟨rfl, by rw [rdC_s (Or.inr (cmp_eq c2)), wu_same hr]⟩
  have K30 : PW G M_Rows_reduce (rmD 2 0 0) (QM G (fun r' w' => r' = none ∧ w' = (w.1, wu w.2 r (.inl (1, N, .inr (.inl (rdC N f)))))) 0 0) 0 0 (30, [(0, .ref r), (1, .long (gC f N 0 0))], [], w) := by
    refine P_aload_n d_Rows_reduce_30 rfl ?_
    refine P_aload_n d_Rows_reduce_31 rfl ?_
    refine P_callS (M := M_Rows_reduce) (pc := 32) (as := [.ref r]) d_Rows_reduce_32 co_Rows_lastPlace L_Rows_21 sm_Rows_lastPlace (v_Rows_lastPlace hr h0 hN) rfl ⟨by decide, by decide⟩ ⟨by decide, by decide⟩ (by exact le_b rfl) ?_ _ rfl
    rintro _ u ⟨rfl, eu⟩
    subst u
    show PW _ _ _ _ _ _ (35, [(0, .ref r), (1, .long (gC f N 0 0))], [.int (nI (lpF f (N - 1))), .ref r], w)
    refine P_lald (j := (lpF f (N - 1))) d_Rows_reduce_35 hr (ix_nI (Nat.lt_trans (lpF_lt h0) (by omega))) (lpF_lt h0) ?_
    refine P_lconst (v := 0) d_Rows_reduce_36 (by decide) ?_
    refine P_lcmp d_Rows_reduce_37 ?_
    refine P_if_ge 44 d_Rows_reduce_38 (by decide) (fun c1 => ?_) (fun c1 => ?_)
    · have hv : byC N f = gC f N 0 0 := if_neg (cmp_ge c1)
      rw [← hv]
      exact K44
    · refine P_lload_n d_Rows_reduce_41 rfl ?_
      refine P_lneg d_Rows_reduce_42 ?_
      refine P_lstore_n d_Rows_reduce_43 (by decide) rfl ?_
      have hv : byC N f = -gC f N 0 0 := if_pos (cmp_nge c1)
      rw [← hv]
      exact K44
  refine P_lconst (v := 0) d_Rows_reduce_0 (by decide) ?_
  refine P_lstore_n d_Rows_reduce_1 (by decide) rfl ?_
  refine P_iconst (v := 0) d_Rows_reduce_2 (by decide) ?_
  refine P_istore_n d_Rows_reduce_3 (by decide) rfl ?_
  refine PW_ind (σ := Int64) N (fun j b => gC f (N - j) j b = gC f N 0 0) (fun j b => (4, [(0, .ref r), (1, .long b), (3, .int (nI j))], [], w)) ?_ ?_ 0 0 (by omega) rfl
  · intro b hv
    show PW _ _ _ _ _ _ (4, [(0, .ref r), (1, .long b), (3, .int (nI N))], [], w)
    replace hv : gC f (N - N) N b = gC f N 0 0 := hv
    rw [Nat.sub_self] at hv
    refine P_iload_n d_Rows_reduce_4 rfl ?_
    refine P_aload_n d_Rows_reduce_5 rfl ?_
    refine P_alen (v := nI N) d_Rows_reduce_6 hr rfl ?_
    refine P_icmp_ge 30 d_Rows_reduce_7 (by decide) (fun _ => ?_) (fun h => absurd (Int32.le_refl _) h)
    refine PW.drop (lv' := [(0, .ref r), (1, .long b)]) (by simp) ?_
    rw [show b = _ from hv]
    exact K30
  · intro j b hj hv kk
    replace hv : gC f (N - j) j b = gC f N 0 0 := hv
    show PW _ _ _ _ _ _ (4, [(0, .ref r), (1, .long b), (3, .int (nI j))], [], w)
    refine P_iload_n d_Rows_reduce_4 rfl ?_
    refine P_aload_n d_Rows_reduce_5 rfl ?_
    refine P_alen (v := nI N) d_Rows_reduce_6 hr rfl ?_
    refine P_icmp_ge 30 d_Rows_reduce_7 (by decide) (fun h => absurd h (nI_ge hj (by omega))) (fun _ => ?_)
    refine P_lload_n d_Rows_reduce_10 rfl ?_
    refine P_lconst (v := 1) d_Rows_reduce_11 (by decide) ?_
    refine P_lcmp d_Rows_reduce_12 ?_
    refine P_if_eq 30 d_Rows_reduce_13 (by decide) (fun c1 => ?_) (fun c1 => ?_)
    · refine PW.drop (lv' := [(0, .ref r), (1, .long b)]) (by simp) ?_
      rw [gC_1 hj (cmp_eq c1)] at hv
      rw [show b = _ from hv]
      exact K30
    · refine P_lload_n d_Rows_reduce_16 rfl ?_
      refine P_aload_n d_Rows_reduce_17 rfl ?_
      refine P_iload_n d_Rows_reduce_18 rfl ?_
      refine P_lald (j := j) d_Rows_reduce_19 hr (ix_nI (by omega)) (by omega) ?_
      refine P_callS (M := M_Rows_reduce) (pc := 20) (as := [.long b, .long (f j)]) d_Rows_reduce_20 co_Rows_divisor L_Rows_17 sm_Rows_divisor (v_Rows_divisor b (f j)) rfl ⟨by decide, by decide⟩ ⟨by decide, by decide⟩ (by exact le_b rfl) ?_ _ rfl
      rintro _ u ⟨rfl, eu⟩
      subst u
      show PW _ _ _ _ _ _ (23, [(0, .ref r), (1, .long b), (3, .int (nI j))], [.long (euS 1000 (absL b) (absL (f j)))], w)
      refine P_lstore_n d_Rows_reduce_23 (by decide) rfl ?_
      refine P_iinc (v := nI (j + 1)) d_Rows_reduce_24 (by decide) rfl (nI_succ j).symm rfl ?_
      refine P_goto 4 d_Rows_reduce_27 (by decide) ?_
      exact kk _ ((gC_s hj (cmp_ne c1)).symm.trans hv)
theorem v_Rows_put {G : pG} {w : pW} {r : Nat} {f : Nat → Int64} (hr : w.2 r = .inl (1, 3, .inr (.inl f))) (hx : r < 1000000) (x y z : Int64) : PM G M_Rows_put 0 0 0 [.long x, .long y, .long z, .ref r] w (fun r' w' => r' = none ∧ w' = (w.1, wu w.2 r (.inl (1, 3, .inr (.inl (p3 f x y z)))))) := by
  refine PM_of pn_Rows_put (le_b rfl) ?_
  show PW _ _ _ _ _ _ (0, [(0, .long x), (2, .long y), (4, .long z), (6, .ref r)], [], w)
  refine P_aload d_Rows_put_0 rfl ?_
  refine P_iconst (v := 0) d_Rows_put_2 (by decide) ?_
  refine P_lload_n d_Rows_put_3 rfl ?_
  refine P_lastG (j := 0) d_Rows_put_4 hr (by omega) ⟨by decide, by decide⟩ (by decide) (fun w1 e1 s1 n1 z1 => ?_)
  show PW _ _ _ _ _ _ (5, [(0, .long x), (2, .long y), (4, .long z), (6, .ref r)], [], w1)
  refine P_aload d_Rows_put_5 rfl ?_
  refine P_iconst (v := 1) d_Rows_put_7 (by decide) ?_
  refine P_lload_n d_Rows_put_8 rfl ?_
  refine P_lastG (j := 1) d_Rows_put_9 s1 (by omega) ⟨by decide, by decide⟩ (by decide) (fun w2 e2 s2 n2 z2 => ?_)
  show PW _ _ _ _ _ _ (10, [(0, .long x), (2, .long y), (4, .long z), (6, .ref r)], [], w2)
  refine P_aload d_Rows_put_10 rfl ?_
  refine P_iconst (v := 2) d_Rows_put_12 (by decide) ?_
  refine P_lload d_Rows_put_13 rfl ?_
  refine P_lastG (j := 2) d_Rows_put_15 s2 (by omega) ⟨by decide, by decide⟩ (by decide) (fun w3 e3 s3 n3 z3 => ?_)
  show PW _ _ _ _ _ _ (16, [(0, .long x), (2, .long y), (4, .long z), (6, .ref r)], [], w3)
  exact P_vret d_Rows_put_16 rfl (le_b rfl) (le_b rfl) ⟨rfl, by rw [e3, e2, e1]; exact congrArg (Prod.mk w.1) (wu_3 _ _ _ _ _)⟩
theorem v_Rows_copy {G : pG} {w : pW} {a b N : Nat} {f g : Nat → Int64} (ha : w.2 a = .inl (1, N, .inr (.inl f))) (hb : w.2 b = .inl (1, N, .inr (.inl g))) (hN : N < 1000000) (hx : b < 1000000) : PM G M_Rows_copy 1 0 0 [.ref a, .ref b] w (fun r w' => r = none ∧ w' = (w.1, wu w.2 b (.inl (1, N, .inr (.inl (va_cpy f g 0 0 N)))))) := by
  refine PM_of pn_Rows_copy (le_b rfl) ?_
  show PW _ _ _ _ _ _ (0, [(0, .ref a), (1, .ref b)], [], w)
  refine P_aload_n d_Rows_copy_0 rfl ?_
  refine P_iconst (v := 0) d_Rows_copy_1 (by decide) ?_
  refine P_aload_n d_Rows_copy_2 rfl ?_
  refine P_iconst (v := 0) d_Rows_copy_3 (by decide) ?_
  refine P_aload_n d_Rows_copy_4 rfl ?_
  refine P_alen (v := nI N) d_Rows_copy_5 ha rfl ?_
  refine P_aload_n d_Rows_copy_6 rfl ?_
  refine P_alen (v := nI N) d_Rows_copy_7 hb rfl ?_
  refine P_mmini d_Rows_copy_8 L_Rows_25 st_min in_Math cd_min ⟨by decide, by decide, by decide, by decide⟩ (by exact le_b rfl) ?_
  rw [ite_self]
  refine P_copylG (i := 0) (j := 0) (q := N) d_Rows_copy_11 L_Rows_29 st_acopy.1 st_acopy.2.1 st_acopy.2.2 ha hb (by omega) ⟨by decide, by decide⟩ ⟨by decide, by decide⟩ (ix_nI (by omega)) (by omega) (by omega) ⟨by decide, by decide⟩ (by exact le_b rfl) (fun w1 e1 s1 n1 z1 => ?_)
  show PW _ _ _ _ _ _ (14, [(0, .ref a), (1, .ref b)], [], w1)
  exact P_vret d_Rows_copy_14 rfl (le_b rfl) (le_b rfl) ⟨rfl, by rw [e1]⟩
theorem v_CM_isNumber {G : pG} {w : pW} (a : Int32) : PM G M_CM_isNumber 0 0 0 [.int a] w (fun r w' => r = some (.int (bi (edge a))) ∧ w' = w) := by
  refine PM_of pn_CM_isNumber (le_b rfl) ?_
  show PW _ _ _ _ _ _ (0, [(0, .int a)], [], w)
  refine P_iload_n d_CM_isNumber_0 rfl ?_
  refine P_sipush (v := (-9999)) d_CM_isNumber_1 (by decide) ?_
  refine P_icmp_lt 18 d_CM_isNumber_4 (by decide) (fun c1 => ?_) (fun c1 => ?_)
  · refine P_iconst (v := 0) d_CM_isNumber_18 (by decide) ?_
    exact P_zret d_CM_isNumber_19 rfl rfl (le_b rfl) (le_b rfl) ⟨by simp [bi, edge, *], rfl⟩
  · refine P_iload_n d_CM_isNumber_7 rfl ?_
    refine P_sipush (v := 9999) d_CM_isNumber_8 (by decide) ?_
    refine P_icmp_gt 18 d_CM_isNumber_11 (by decide) (fun c2 => ?_) (fun c2 => ?_)
    · refine P_iconst (v := 0) d_CM_isNumber_18 (by decide) ?_
      exact P_zret d_CM_isNumber_19 rfl rfl (le_b rfl) (le_b rfl) ⟨by simp [bi, edge, *], rfl⟩
    · refine P_iconst (v := 1) d_CM_isNumber_14 (by decide) ?_
      refine P_goto 19 d_CM_isNumber_15 (by decide) ?_
      exact P_zret d_CM_isNumber_19 rfl rfl (le_b rfl) (le_b rfl) ⟨by simp [bi, edge, *], rfl⟩
theorem v_MD_isEdge {G : pG} {w : pW} (a : Int32) : PM G M_MD_isEdge 0 0 0 [.int a] w (fun r w' => r = some (.int (bi (edge a))) ∧ w' = w) := by
  refine PM_of pn_MD_isEdge (le_b rfl) ?_
  show PW _ _ _ _ _ _ (0, [(0, .int a)], [], w)
  refine P_iload_n d_MD_isEdge_0 rfl ?_
  refine P_sipush (v := (-9999)) d_MD_isEdge_1 (by decide) ?_
  refine P_icmp_lt 18 d_MD_isEdge_4 (by decide) (fun c1 => ?_) (fun c1 => ?_)
  · refine P_iconst (v := 0) d_MD_isEdge_18 (by decide) ?_
    exact P_zret d_MD_isEdge_19 rfl rfl (le_b rfl) (le_b rfl) ⟨by simp [bi, edge, *], rfl⟩
  · refine P_iload_n d_MD_isEdge_7 rfl ?_
    refine P_sipush (v := 9999) d_MD_isEdge_8 (by decide) ?_
    refine P_icmp_gt 18 d_MD_isEdge_11 (by decide) (fun c2 => ?_) (fun c2 => ?_)
    · refine P_iconst (v := 0) d_MD_isEdge_18 (by decide) ?_
      exact P_zret d_MD_isEdge_19 rfl rfl (le_b rfl) (le_b rfl) ⟨by simp [bi, edge, *], rfl⟩
    · refine P_iconst (v := 1) d_MD_isEdge_14 (by decide) ?_
      refine P_goto 19 d_MD_isEdge_15 (by decide) ?_
      exact P_zret d_MD_isEdge_19 rfl rfl (le_b rfl) (le_b rfl) ⟨by simp [bi, edge, *], rfl⟩
theorem v_CM_areNumbers {G : pG} {w : pW} (x y z : Int32) : PM G M_CM_areNumbers 1 0 0 [.int x, .int y, .int z] w (fun r w' => r = some (.int (bi (edge3 x y z))) ∧ w' = w) := by
  refine PM_of pn_CM_areNumbers (le_b rfl) ?_
  show PW _ _ _ _ _ _ (0, [(0, .int x), (1, .int y), (2, .int z)], [], w)
  refine P_iload_n d_CM_areNumbers_0 rfl ?_
  refine P_callS (M := M_CM_areNumbers) (pc := 1) (as := [.int x]) d_CM_areNumbers_1 co_CM_isNumber L_CM_443 sm_CM_isNumber (v_CM_isNumber x) rfl ⟨by decide, by decide⟩ ⟨by decide, by decide⟩ (by exact le_b rfl) ?_ _ rfl
  rintro _ u ⟨rfl, eu⟩
  subst u
  show PW _ _ _ _ _ _ (4, [(0, .int x), (1, .int y), (2, .int z)], [.int (bi (edge x))], w)
  refine P_if_eq 25 d_CM_areNumbers_4 (by decide) (fun c1 => ?_) (fun c1 => ?_)
  · refine P_iconst (v := 0) d_CM_areNumbers_25 (by decide) ?_
    exact P_zret d_CM_areNumbers_26 rfl rfl (le_b rfl) (le_b rfl) ⟨by simp [edge3, bi, bi_0 c1], rfl⟩
  · refine P_iload_n d_CM_areNumbers_7 rfl ?_
    refine P_callS (M := M_CM_areNumbers) (pc := 8) (as := [.int y]) d_CM_areNumbers_8 co_CM_isNumber L_CM_443 sm_CM_isNumber (v_CM_isNumber y) rfl ⟨by decide, by decide⟩ ⟨by decide, by decide⟩ (by exact le_b rfl) ?_ _ rfl
    rintro _ u ⟨rfl, eu⟩
    subst u
    show PW _ _ _ _ _ _ (11, [(0, .int x), (1, .int y), (2, .int z)], [.int (bi (edge y))], w)
    refine P_if_eq 25 d_CM_areNumbers_11 (by decide) (fun c2 => ?_) (fun c2 => ?_)
    · refine P_iconst (v := 0) d_CM_areNumbers_25 (by decide) ?_
      exact P_zret d_CM_areNumbers_26 rfl rfl (le_b rfl) (le_b rfl) ⟨by simp [edge3, bi, bi_1 c1, bi_0 c2], rfl⟩
    · refine P_iload_n d_CM_areNumbers_14 rfl ?_
      refine P_callS (M := M_CM_areNumbers) (pc := 15) (as := [.int z]) d_CM_areNumbers_15 co_CM_isNumber L_CM_443 sm_CM_isNumber (v_CM_isNumber z) rfl ⟨by decide, by decide⟩ ⟨by decide, by decide⟩ (by exact le_b rfl) ?_ _ rfl
      rintro _ u ⟨rfl, eu⟩
      subst u
      show PW _ _ _ _ _ _ (18, [(0, .int x), (1, .int y), (2, .int z)], [.int (bi (edge z))], w)
      refine P_if_eq 25 d_CM_areNumbers_18 (by decide) (fun c3 => ?_) (fun c3 => ?_)
      · refine P_iconst (v := 0) d_CM_areNumbers_25 (by decide) ?_
        exact P_zret d_CM_areNumbers_26 rfl rfl (le_b rfl) (le_b rfl) ⟨by simp [edge3, bi, bi_1 c1, bi_1 c2, bi_0 c3], rfl⟩
      · refine P_iconst (v := 1) d_CM_areNumbers_21 (by decide) ?_
        refine P_goto 26 d_CM_areNumbers_22 (by decide) ?_
        exact P_zret d_CM_areNumbers_26 rfl rfl (le_b rfl) (le_b rfl) ⟨by simp [edge3, bi, bi_1 c1, bi_1 c2, bi_1 c3], rfl⟩
theorem v_CM_isSomething {G : pG} {w : pW} (x y z : Int32) : PM G M_CM_isSomething 0 0 0 [.int x, .int y, .int z] w (fun r w' => r = some (.int (bi (some3 x y z))) ∧ w' = w) := by
  refine PM_of pn_CM_isSomething (le_b rfl) ?_
  show PW _ _ _ _ _ _ (0, [(0, .int x), (1, .int y), (2, .int z)], [], w)
  refine P_iload_n d_CM_isSomething_0 rfl ?_
  refine P_if_ne 12 d_CM_isSomething_1 (by decide) (fun c1 => ?_) (fun c1 => ?_)
  · refine P_iconst (v := 1) d_CM_isSomething_12 (by decide) ?_
    refine P_goto 17 d_CM_isSomething_13 (by decide) ?_
    exact P_zret d_CM_isSomething_17 rfl rfl (le_b rfl) (le_b rfl) ⟨by simp [some3, bi, *], rfl⟩
  · refine P_iload_n d_CM_isSomething_4 rfl ?_
    refine P_if_ne 12 d_CM_isSomething_5 (by decide) (fun c2 => ?_) (fun c2 => ?_)
    · refine P_iconst (v := 1) d_CM_isSomething_12 (by decide) ?_
      refine P_goto 17 d_CM_isSomething_13 (by decide) ?_
      exact P_zret d_CM_isSomething_17 rfl rfl (le_b rfl) (le_b rfl) ⟨by simp [some3, bi, *], rfl⟩
    · refine P_iload_n d_CM_isSomething_8 rfl ?_
      refine P_if_eq 16 d_CM_isSomething_9 (by decide) (fun c3 => ?_) (fun c3 => ?_)
      · refine P_iconst (v := 0) d_CM_isSomething_16 (by decide) ?_
        exact P_zret d_CM_isSomething_17 rfl rfl (le_b rfl) (le_b rfl) ⟨by simp [some3, bi, *], rfl⟩
      · refine P_iconst (v := 1) d_CM_isSomething_12 (by decide) ?_
        refine P_goto 17 d_CM_isSomething_13 (by decide) ?_
        exact P_zret d_CM_isSomething_17 rfl rfl (le_b rfl) (le_b rfl) ⟨by simp [some3, bi, *], rfl⟩
theorem v_MD_common {G : pG} {w : pW} (a b : Int64) : PM G M_MD_common 1 0 0 [.long a, .long b] w (fun r w' => (∃ v, r = some (.long v)) ∧ w' = w) := by
  refine PM_of pn_MD_common (le_b rfl) ?_
  show PW _ _ _ _ _ _ (0, [(0, .long a), (2, .long b)], [], w)
  refine P_lload_n d_MD_common_0 rfl ?_
  refine P_mabsl d_MD_common_1 L_MD_210 st_abs in_Math cd_abs ⟨by decide, by decide, by decide, by decide⟩ (by exact le_b rfl) ?_
  show PW _ _ _ _ _ _ (4, [(0, .long a), (2, .long b)], [.long (absL a)], w)
  refine P_lstore d_MD_common_4 (by decide) rfl ?_
  refine P_lload_n d_MD_common_6 rfl ?_
  refine P_mabsl d_MD_common_7 L_MD_210 st_abs in_Math cd_abs ⟨by decide, by decide, by decide, by decide⟩ (by exact le_b rfl) ?_
  show PW _ _ _ _ _ _ (10, [(0, .long a), (2, .long b), (4, .long (absL a))], [.long (absL b)], w)
  refine P_lstore d_MD_common_10 (by decide) rfl ?_
  refine PW_meas (σ := Int64 × Int64) (fun s => s.2.toInt.natAbs) (fun _ => True) (fun s => (12, [(0, .long a), (2, .long b), (4, .long s.1), (6, .long s.2)], [], w)) ?_ (absL a, absL b) trivial
  rintro ⟨x, y⟩ _ kk
  show PW _ _ _ _ _ _ (12, [(0, .long a), (2, .long b), (4, .long x), (6, .long y)], [], w)
  refine P_lload d_MD_common_12 rfl ?_
  refine P_lconst (v := 0) d_MD_common_14 (by decide) ?_
  refine P_lcmp d_MD_common_15 ?_
  refine P_if_eq 37 d_MD_common_16 (by decide) (fun c1 => ?_) (fun c1 => ?_)
  · refine P_lload d_MD_common_37 rfl ?_
    exact P_lret d_MD_common_39 rfl (le_b rfl) (le_b rfl) ⟨⟨_, rfl⟩, rfl⟩
  · refine P_lload d_MD_common_19 rfl ?_
    refine P_lload d_MD_common_21 rfl ?_
    refine P_lrem d_MD_common_23 (cmp_ne c1) ?_
    refine P_lstore d_MD_common_24 (by decide) rfl ?_
    refine P_lload d_MD_common_26 rfl ?_
    refine P_lstore d_MD_common_28 (by decide) rfl ?_
    refine P_lload d_MD_common_30 rfl ?_
    refine P_lstore d_MD_common_32 (by decide) rfl ?_
    refine P_goto 12 d_MD_common_34 (by decide) ?_
    show PW _ _ _ _ _ _ (12, [(0, .long a), (2, .long b), (4, .long y), (6, .long (x - x / y * y)), (8, .long (x - x / y * y))], [], w)
    refine PW.drop (lv' := [(0, .long a), (2, .long b), (4, .long y), (6, .long (x - x / y * y))]) (by simp) ?_
    exact kk (y, x - x / y * y) (rem_less (cmp_ne c1)) trivial
theorem v_MD_reduces {G : pG} {w : pW} {r N : Nat} {f : Nat → Int64} (hr : w.2 r = .inl (1, N, .inr (.inl f))) (h0 : 0 < N) (hN : N < 1000000) (hx : r < 1000000) : PM G M_MD_reduces 2 0 0 [.ref r] w (fun r' w' => r' = none ∧ ∃ g, w' = (w.1, wu w.2 r (.inl (1, N, .inr (.inl g))))) := by
  refine PM_of pn_MD_reduces (le_b rfl) ?_
  show PW _ _ _ _ _ _ (0, [(0, .ref r)], [], w)
  have K67 : ∀ (b l : Int64) (i : Int32), ¬ b = 0 → PW G M_MD_reduces (rmD 2 0 0) (QM G (fun r' w' => r' = none ∧ ∃ g, w' = (w.1, wu w.2 r (.inl (1, N, .inr (.inl g))))) 0 0) 0 0 (67, [(0, .ref r), (1, .long b), (3, .long l), (5, .int i)], [], w) := by
    intro b l i hb
    refine P_iconst (v := 0) d_MD_reduces_67 (by decide) ?_
    refine P_istore d_MD_reduces_68 (by decide) rfl ?_
    refine PW_ind (σ := pW) N (fun _ u => ∃ g : Nat → Int64, u = (w.1, wu w.2 r (.inl (1, N, .inr (.inl g))))) (fun j u => (70, [(0, .ref r), (1, .long b), (3, .long l), (5, .int (nI j))], [], u)) ?_ ?_ 0 w (by omega) ⟨f, by rw [wu_same hr]⟩
    · rintro u ⟨g, eu⟩
      show PW _ _ _ _ _ _ (70, [(0, .ref r), (1, .long b), (3, .long l), (5, .int (nI N))], [], u)
      have hr1 : u.2 r = .inl (1, N, .inr (.inl g)) := w_s eu
      refine P_iload d_MD_reduces_70 rfl ?_
      refine P_aload_n d_MD_reduces_72 rfl ?_
      refine P_alen (v := nI N) d_MD_reduces_73 hr1 rfl ?_
      refine P_icmp_ge 91 d_MD_reduces_74 (by decide) (fun _ => ?_) (fun h => absurd (Int32.le_refl _) h)
      exact P_vret d_MD_reduces_91 rfl (le_b rfl) (le_b rfl) ⟨rfl, g, eu⟩
    · rintro j u hj ⟨g, eu⟩ kk
      show PW _ _ _ _ _ _ (70, [(0, .ref r), (1, .long b), (3, .long l), (5, .int (nI j))], [], u)
      have hr1 : u.2 r = .inl (1, N, .inr (.inl g)) := w_s eu
      refine P_iload d_MD_reduces_70 rfl ?_
      refine P_aload_n d_MD_reduces_72 rfl ?_
      refine P_alen (v := nI N) d_MD_reduces_73 hr1 rfl ?_
      refine P_icmp_ge 91 d_MD_reduces_74 (by decide) (fun h => absurd h (nI_ge hj (by omega))) (fun _ => ?_)
      refine P_aload_n d_MD_reduces_77 rfl ?_
      refine P_iload d_MD_reduces_78 rfl ?_
      refine P_dup2 d_MD_reduces_80 rfl rfl ?_
      refine P_lald (j := j) d_MD_reduces_81 hr1 (ix_nI (by omega)) (by omega) ?_
      refine P_lload_n d_MD_reduces_82 rfl ?_
      refine P_ldiv d_MD_reduces_83 hb ?_
      refine P_lastG (j := j) d_MD_reduces_84 hr1 (by omega) (ix_nI (by omega)) (by omega) (fun w1 e1 s1 n1 z1 => ?_)
      show PW _ _ _ _ _ _ (85, [(0, .ref r), (1, .long b), (3, .long l), (5, .int (nI j))], [], w1)
      refine P_iinc (v := nI (j + 1)) d_MD_reduces_85 (by decide) rfl (nI_succ j).symm rfl ?_
      refine P_goto 70 d_MD_reduces_88 (by decide) ?_
      exact kk w1 ⟨_, by rw [e1, eu]; exact congrArg (Prod.mk w.1) (wu_wu _ _ _ _)⟩
  refine P_lconst (v := 0) d_MD_reduces_0 (by decide) ?_
  refine P_lstore_n d_MD_reduces_1 (by decide) rfl ?_
  refine P_lconst (v := 0) d_MD_reduces_2 (by decide) ?_
  refine P_lstore_n d_MD_reduces_3 (by decide) rfl ?_
  refine P_iconst (v := 0) d_MD_reduces_4 (by decide) ?_
  refine P_istore d_MD_reduces_5 (by decide) rfl ?_
  refine PW_ind (σ := Int64 × Int64) N (fun _ _ => True) (fun j s => (7, [(0, .ref r), (1, .long s.1), (3, .long s.2), (5, .int (nI j))], [], w)) ?_ ?_ 0 (0, 0) (by omega) trivial
  · rintro ⟨b, l⟩ _
    show PW _ _ _ _ _ _ (7, [(0, .ref r), (1, .long b), (3, .long l), (5, .int (nI N))], [], w)
    refine P_iload d_MD_reduces_7 rfl ?_
    refine P_aload_n d_MD_reduces_9 rfl ?_
    refine P_alen (v := nI N) d_MD_reduces_10 hr rfl ?_
    refine P_icmp_ge 47 d_MD_reduces_11 (by decide) (fun _ => ?_) (fun h => absurd (Int32.le_refl _) h)
    refine P_lload_n d_MD_reduces_47 rfl ?_
    refine P_lconst (v := 0) d_MD_reduces_48 (by decide) ?_
    refine P_lcmp d_MD_reduces_49 ?_
    refine P_if_ne 54 d_MD_reduces_50 (by decide) (fun c1 => ?_) (fun c1 => ?_)
    · refine P_lload_n d_MD_reduces_54 rfl ?_
      refine P_lconst (v := 0) d_MD_reduces_55 (by decide) ?_
      refine P_lcmp d_MD_reduces_56 ?_
      refine P_if_ge 65 d_MD_reduces_57 (by decide) (fun c2 => ?_) (fun c2 => ?_)
      · refine P_lload_n d_MD_reduces_65 rfl ?_
        refine P_lstore_n d_MD_reduces_66 (by decide) rfl ?_
        exact K67 _ _ _ (cmp_ne c1)
      · refine P_lload_n d_MD_reduces_60 rfl ?_
        refine P_lneg d_MD_reduces_61 ?_
        refine P_goto 66 d_MD_reduces_62 (by decide) ?_
        refine P_lstore_n d_MD_reduces_66 (by decide) rfl ?_
        exact K67 _ _ _ (neg_ne (cmp_ne c1))
    · exact P_vret d_MD_reduces_53 rfl (le_b rfl) (le_b rfl) ⟨rfl, f, by rw [wu_same hr]⟩
  · rintro j ⟨b, l⟩ hj _ kk
    show PW _ _ _ _ _ _ (7, [(0, .ref r), (1, .long b), (3, .long l), (5, .int (nI j))], [], w)
    refine P_iload d_MD_reduces_7 rfl ?_
    refine P_aload_n d_MD_reduces_9 rfl ?_
    refine P_alen (v := nI N) d_MD_reduces_10 hr rfl ?_
    refine P_icmp_ge 47 d_MD_reduces_11 (by decide) (fun h => absurd h (nI_ge hj (by omega))) (fun _ => ?_)
    refine P_lload_n d_MD_reduces_14 rfl ?_
    refine P_aload_n d_MD_reduces_15 rfl ?_
    refine P_iload d_MD_reduces_16 rfl ?_
    refine P_lald (j := j) d_MD_reduces_18 hr (ix_nI (by omega)) (by omega) ?_
    refine P_callS (M := M_MD_reduces) (pc := 19) (as := [.long b, .long (f j)]) d_MD_reduces_19 co_MD_common L_MD_216 sm_MD_common (v_MD_common b (f j)) rfl ⟨by decide, by decide⟩ ⟨by decide, by decide⟩ (by exact le_b rfl) ?_ _ rfl
    rintro _ u ⟨⟨v1, rfl⟩, eu⟩
    subst u
    show PW _ _ _ _ _ _ (22, [(0, .ref r), (1, .long b), (3, .long l), (5, .int (nI j))], [.long v1], w)
    refine P_lstore_n d_MD_reduces_22 (by decide) rfl ?_
    refine P_aload_n d_MD_reduces_23 rfl ?_
    refine P_iload d_MD_reduces_24 rfl ?_
    refine P_lald (j := j) d_MD_reduces_26 hr (ix_nI (by omega)) (by omega) ?_
    refine P_lconst (v := 0) d_MD_reduces_27 (by decide) ?_
    refine P_lcmp d_MD_reduces_28 ?_
    refine P_if_eq 39 d_MD_reduces_29 (by decide) (fun c2 => ?_) (fun c2 => ?_)
    · refine P_lload_n d_MD_reduces_39 rfl ?_
      refine P_lstore_n d_MD_reduces_40 (by decide) rfl ?_
      refine P_iinc (v := nI (j + 1)) d_MD_reduces_41 (by decide) rfl (nI_succ j).symm rfl ?_
      refine P_goto 7 d_MD_reduces_44 (by decide) ?_
      exact kk (_, _) trivial
    · refine P_aload_n d_MD_reduces_32 rfl ?_
      refine P_iload d_MD_reduces_33 rfl ?_
      refine P_lald (j := j) d_MD_reduces_35 hr (ix_nI (by omega)) (by omega) ?_
      refine P_goto 40 d_MD_reduces_36 (by decide) ?_
      refine P_lstore_n d_MD_reduces_40 (by decide) rfl ?_
      refine P_iinc (v := nI (j + 1)) d_MD_reduces_41 (by decide) rfl (nI_succ j).symm rfl ?_
      refine P_goto 7 d_MD_reduces_44 (by decide) ?_
      exact kk (_, _) trivial
