/-! rows with named worlds; loops; rows of numbers: divisors, REDUCED (declarations by program) -/
section
variable {G : pG} {M : pM} {R : Room} {QF : List Frame → Array Value → State → State → Prop} {k n pc : Nat} {lv : List (Nat × Value)} {st : List Value} {w : pW}
theorem P_putG {ci N i index r : Nat} {C : String} {T : u_T} {ty : Nat → FieldType} {fs : List Value} {v : Value} (d : decode M.2.1 pc = .ok (.putfield index, 3)) (ok : COK ci C T N ty) (hk : i < N) (hfin : (T i).2.2.2 = false) (hlink : Cond.fieldLink M.1.cls index (T i).1 (T i).2.1 (T i).2.2.1 ∈ gtbl) (hw : w.2 r = .inr (ci, fs)) (hn : ∀ f, narrow (ty i) (tv f v) = tv f v) (hfit : ∀ f, fits (ty i) (tv f v) = true)
    (kk : ∀ w1 : pW, w1 = (w.1, wu w.2 r (.inr (ci, fs.set i v))) → w1.2 r = .inr (ci, fs.set i v) → (∀ q, q ≠ r → w1.2 q = w.2 q) → w1.1 = w.1 → PW G M R QF k n (pc + 3, lv, st, w1)) : PW G M R QF k n (pc, lv, v :: .ref r :: st, w) :=
  P_put d ok hk hfin hlink hw hn hfit (kk _ rfl (wu_s _ _ _) (fun q h => wu_n h) rfl)
theorem P_putNG {ci N i index r : Nat} {C host : String} {T : u_T} {ty : Nat → FieldType} {fs : List Value} {v : Value} (d : decode M.2.1 pc = .ok (.putfield index, 3)) (ok : COK ci C T N ty) (hk : i < N) (hfin : (T i).2.2.2 = false) (hlink : Cond.fieldLinkNest M.1.cls index (T i).1 (T i).2.1 (T i).2.2.1 host ∈ ntbl) (hw : w.2 r = .inr (ci, fs)) (hn : ∀ f, narrow (ty i) (tv f v) = tv f v) (hfit : ∀ f, fits (ty i) (tv f v) = true)
    (kk : ∀ w1 : pW, w1 = (w.1, wu w.2 r (.inr (ci, fs.set i v))) → w1.2 r = .inr (ci, fs.set i v) → (∀ q, q ≠ r → w1.2 q = w.2 q) → w1.1 = w.1 → PW G M R QF k n (pc + 3, lv, st, w1)) : PW G M R QF k n (pc, lv, v :: .ref r :: st, w) :=
  P_putN d ok hk hfin hlink hw hn hfit (kk _ rfl (wu_s _ _ _) (fun q h => wu_n h) rfl)
theorem P_iastG {i x : Int32} {j r a : Nat} {f : Nat → Int32} (d : decode M.2.1 pc = .ok (.iastore, 1)) (hw : w.2 r = .inl (0, a, .inl f)) (hr : r < 1000000) (hi : ix i j) (hj : j < a)
    (kk : ∀ w1 : pW, w1 = (w.1, wu w.2 r (.inl (0, a, .inl (upd f j x)))) → w1.2 r = .inl (0, a, .inl (upd f j x)) → (∀ q, q ≠ r → w1.2 q = w.2 q) → w1.1 = w.1 → PW G M R QF k n (pc + 1, lv, st, w1)) : PW G M R QF k n (pc, lv, .int x :: .int i :: .ref r :: st, w) :=
  P_iast d hw hr hi hj (kk _ rfl (wu_s _ _ _) (fun q h => wu_n h) rfl)
theorem P_lastG {i : Int32} {x : Int64} {j r a : Nat} {f : Nat → Int64} (d : decode M.2.1 pc = .ok (.lastore, 1)) (hw : w.2 r = .inl (1, a, .inr (.inl f))) (hr : r < 1000000) (hi : ix i j) (hj : j < a)
    (kk : ∀ w1 : pW, w1 = (w.1, wu w.2 r (.inl (1, a, .inr (.inl (vp_updL f j x))))) → w1.2 r = .inl (1, a, .inr (.inl (vp_updL f j x))) → (∀ q, q ≠ r → w1.2 q = w.2 q) → w1.1 = w.1 → PW G M R QF k n (pc + 1, lv, st, w1)) : PW G M R QF k n (pc, lv, .long x :: .int i :: .ref r :: st, w) :=
  P_last d hw hr hi hj (kk _ rfl (wu_s _ _ _) (fun q h => wu_n h) rfl)
theorem P_copylG {index a b na nb : Nat} {sp dp nn : Int32} {i j q : Nat} {f g : Nat → Int64} (d : decode M.2.1 pc = .ok (.invokestatic index, 3)) (hlk : Cond.methodLink M.1.cls index arraycopyName ∈ gtbl) (hna : Cond.native arraycopyName ∈ gtbl) (hst : Cond.static arraycopyName ∈ gtbl) (hini : Cond.initialized "java/lang/System" ∈ gtbl)
    (ha : w.2 a = .inl (1, na, .inr (.inl f))) (hb : w.2 b = .inl (1, nb, .inr (.inl g))) (hbx : b < 1000000) (hi : ix sp i) (hj : ix dp j) (hq : ix nn q) (h4 : i + q ≤ na) (h5 : j + q ≤ nb) (hR : 1 ≤ R.frames ∧ 60 ≤ R.locals) (hcat : (st.map Value.category).sum ≤ 8)
    (kk : ∀ w1 : pW, w1 = (w.1, wu w.2 b (.inl (1, nb, .inr (.inl (va_cpy f g i j q))))) → w1.2 b = .inl (1, nb, .inr (.inl (va_cpy f g i j q))) → (∀ q, q ≠ b → w1.2 q = w.2 q) → w1.1 = w.1 → PW G M R QF k n (pc + 3, lv, st, w1)) : PW G M R QF k n (pc, lv, .int nn :: .int dp :: .ref b :: .int sp :: .ref a :: st, w) :=
  P_copyl d hlk hna hst hini ha hb hbx hi hj hq h4 h5 hR hcat (kk _ rfl (wu_s _ _ _) (fun q h => wu_n h) rfl)
theorem w_s {w u : pW} {r : Nat} {e : pE} (h : u = (w.1, wu w.2 r e)) : u.2 r = e := by
  subst h
  exact wu_s w.2 r e
theorem w_n {w u : pW} {r : Nat} {e : pE} (h : u = (w.1, wu w.2 r e)) : ∀ q, q ≠ r → u.2 q = w.2 q := by
  subst h
  exact fun q hq => wu_n hq
theorem w_z {w u : pW} {r : Nat} {e : pE} (h : u = (w.1, wu w.2 r e)) : u.1 = w.1 := by rw [h]
/-- a loop that counts from j up to N, with a state -/
theorem PW_ind {σ : Type} (N : Nat) (P : Nat → σ → Prop) (C : Nat → σ → pC) (out : ∀ s, P N s → PW G M R QF k n (C N s)) (step : ∀ j s, j < N → P j s → (∀ s', P (j + 1) s' → PW G M R QF k n (C (j + 1) s')) → PW G M R QF k n (C j s)) : ∀ (j : Nat) (s : σ), j ≤ N → P j s → PW G M R QF k n (C j s) := by
  have : ∀ d j s, j + d = N → P j s → PW G M R QF k n (C j s) := by
    intro d
    induction d with
    | zero => intro j s h hp; have e : j = N := by omega
              rw [e] at hp ⊢
              exact out s hp
    | succ d ih => intro j s h hp; exact step j s (by omega) hp (fun s' hs => ih (j + 1) s' (by omega) hs)
  intro j s h hp
  exact this (N - j) j s (by omega) hp
/-- a loop with a measure that falls -/
theorem PW_meas {σ : Type} (μ : σ → Nat) (P : σ → Prop) (C : σ → pC) (step : ∀ s, P s → (∀ s', μ s' < μ s → P s' → PW G M R QF k n (C s')) → PW G M R QF k n (C s)) : ∀ s : σ, P s → PW G M R QF k n (C s) := by
  have : ∀ d s, μ s < d → P s → PW G M R QF k n (C s) := by
    intro d
    induction d with
    | zero => intro s h; exact absurd h (Nat.not_lt_zero _)
    | succ d ih => intro s h hp; exact step s hp (fun s' h1 hs => ih s' (by omega) hs)
  intro s hp
  exact this (μ s + 1) s (Nat.lt_succ_self _) hp
end
theorem cmp_eq {x y : Int64} (h : lg_cmp x y = 0) : x = y := by
  unfold lg_cmp at h
  split at h
  · exact absurd h (by decide)
  · split at h
    · assumption
    · exact absurd h (by decide)
theorem cmp_ne {x y : Int64} (h : ¬ lg_cmp x y = 0) : ¬ x = y := by
  intro e
  apply h
  unfold lg_cmp
  rw [e, if_neg (show ¬ y > y from fun g => Int64.lt_irrefl g), if_pos rfl]
theorem cmp_ge {x y : Int64} (h : 0 ≤ lg_cmp x y) : ¬ x < y := by
  intro e
  unfold lg_cmp at h
  rw [if_neg (show ¬ x > y from fun g => Int64.lt_irrefl (Int64.lt_trans e g)), if_neg (fun g => by rw [g] at e; exact Int64.lt_irrefl e)] at h
  exact absurd h (by decide)
theorem cmp_nge {x y : Int64} (h : ¬ 0 ≤ lg_cmp x y) : x < y := by
  unfold lg_cmp at h
  split at h
  · exact absurd (by decide) h
  · split at h
    · exact absurd (by decide) h
    · rename_i h1 h2
      exact Int64.lt_of_le_of_ne (Int64.not_lt.mp h1) h2
theorem nI_dn (i : Nat) : nI (i + 1) + -1 = nI i := by
  rw [nI_succ, Int32.add_assoc]
  exact Int32.add_zero _
def absL (x : Int64) : Int64 := if 0 < x then x else -x
/-- the greatest divisor of two, in at most so many steps -/
def euS : Nat → Int64 → Int64 → Int64
  | 0, x, _ => x
  | n + 1, x, y => if y = 0 then x else euS n y (x - x / y * y)
theorem euS_z (n : Nat) (x : Int64) : euS n x 0 = x := by cases n <;> rfl
theorem euS_s {N j : Nat} {x y : Int64} (h : j < N) (hy : ¬ y = 0) : euS (N - j) x y = euS (N - (j + 1)) y (x - x / y * y) := by
  rw [show N - j = (N - (j + 1)) + 1 by omega]
  exact if_neg hy
/-- the place of the last that isn't 0 -/
def lpF (f : Nat → Int64) : Nat → Nat
  | 0 => 0
  | j + 1 => if f (j + 1) = 0 then lpF f j else j + 1
theorem lpF_0 {f : Nat → Int64} {j : Nat} (h : f (j + 1) = 0) : lpF f (j + 1) = lpF f j := if_pos h
theorem lpF_1 {f : Nat → Int64} {j : Nat} (h : ¬ f (j + 1) = 0) : lpF f (j + 1) = j + 1 := if_neg h
theorem lpF_le (f : Nat → Int64) : ∀ j, lpF f j ≤ j
  | 0 => Nat.le_refl 0
  | j + 1 => by
    unfold lpF
    split
    · exact Nat.le_succ_of_le (lpF_le f j)
    · exact Nat.le_refl _
theorem lpF_lt {f : Nat → Int64} {N : Nat} (h : 0 < N) : lpF f (N - 1) < N := Nat.lt_of_le_of_lt (lpF_le f _) (by omega)
/-- the divisor of a row, as long as it isn't 1 -/
def gC (f : Nat → Int64) : Nat → Nat → Int64 → Int64
  | 0, _, b => b
  | n + 1, j, b => if b = 1 then b else gC f n (j + 1) (euS 1000 (absL b) (absL (f j)))
theorem gC_1 {f : Nat → Int64} {N j : Nat} {b : Int64} (hj : j < N) (h : b = 1) : gC f (N - j) j b = b := by
  rw [show N - j = (N - (j + 1)) + 1 by omega]
  exact if_pos h
theorem gC_s {f : Nat → Int64} {N j : Nat} {b : Int64} (hj : j < N) (h : ¬ b = 1) : gC f (N - j) j b = gC f (N - (j + 1)) (j + 1) (euS 1000 (absL b) (absL (f j))) := by
  rw [show N - j = (N - (j + 1)) + 1 by omega]
  exact if_neg h
def byC (N : Nat) (f : Nat → Int64) : Int64 := if f (lpF f (N - 1)) < 0 then -gC f N 0 0 else gC f N 0 0
def dvF (f : Nat → Int64) (b : Int64) (j : Nat) : Nat → Int64 := fun i => if i < j then f i / b else f i
def rdC (N : Nat) (f : Nat → Int64) : Nat → Int64 := if byC N f = 0 ∨ byC N f = 1 then f else dvF f (byC N f) N
theorem rdC_s {N : Nat} {f : Nat → Int64} (h : byC N f = 0 ∨ byC N f = 1) : rdC N f = f := if_pos h
theorem rdC_d {N : Nat} {f : Nat → Int64} (h0 : ¬ byC N f = 0) (h1 : ¬ byC N f = 1) : rdC N f = dvF f (byC N f) N := if_neg (fun h => h.elim h0 h1)
theorem dvF_0 (f : Nat → Int64) (b : Int64) : dvF f b 0 = f := funext fun i => if_neg (Nat.not_lt_zero i)
theorem dvF_at (f : Nat → Int64) (b : Int64) (j : Nat) : dvF f b j j = f j := if_neg (Nat.lt_irrefl j)
theorem wu_wu (f : Nat → pE) (r : Nat) (a b : pE) : wu (wu f r a) r b = wu f r b := by
  funext i
  unfold wu
  split <;> rfl
theorem dvF_s (f : Nat → Int64) (b : Int64) (j : Nat) : vp_updL (dvF f b j) j (dvF f b j j / b) = dvF f b (j + 1) := by
  funext i
  rw [dvF_at]
  unfold vp_updL dvF
  by_cases h : i = j
  · rw [if_pos h, if_pos (by omega), h]
  · rw [if_neg h]
    by_cases h1 : i < j
    · rw [if_pos h1, if_pos (by omega)]
    · rw [if_neg h1, if_neg (by omega)]
theorem dv_step (g : Nat → pE) (r N : Nat) (f : Nat → Int64) (b : Int64) (j : Nat) (_ : j < N) : wu (wu g r (.inl (1, N, .inr (.inl (dvF f b j))))) r (.inl (1, N, .inr (.inl (vp_updL (dvF f b j) j (dvF f b j j / b))))) = wu g r (.inl (1, N, .inr (.inl (dvF f b (j + 1))))) := by
  rw [wu_wu, dvF_s]
def p3 (f : Nat → Int64) (x y z : Int64) : Nat → Int64 := vp_updL (vp_updL (vp_updL f 0 x) 1 y) 2 z
theorem wu_3 (g : Nat → pE) (r : Nat) (a b c : pE) : wu (wu (wu g r a) r b) r c = wu g r c := by rw [wu_wu, wu_wu]
theorem rem64 (x y : Int64) : x - x / y * y = x % y := by
  apply Int64.toInt_inj.mp
  rw [Int64.toInt_sub, Int64.toInt_mul, Int64.toInt_div, Int64.toInt_mod, Int.bmod_mul_bmod, Int.sub_bmod_bmod]
  rw [show x.toInt - x.toInt.tdiv y.toInt * y.toInt = x.toInt.tmod y.toInt by rw [Int.tmod_def, Int.mul_comm]]
  rw [← Int64.toInt_mod]
  exact Int64.toInt_bmod _
theorem rem_less {x y : Int64} (h : ¬ y = 0) : (x - x / y * y).toInt.natAbs < y.toInt.natAbs := by
  rw [rem64, Int64.toInt_mod, Int.natAbs_tmod]
  apply Nat.mod_lt
  apply Nat.pos_of_ne_zero
  intro e
  apply h
  apply Int64.toInt_inj.mp
  rw [Int.natAbs_eq_zero.mp e]
  rfl
theorem neg_ne {b : Int64} (h : ¬ b = 0) : ¬ -b = 0 := fun e => h (by rw [← Int64.neg_neg (a := b), e]; rfl)
def bi (b : Bool) : Int32 := if b = true then 1 else 0
theorem bi_0 {b : Bool} (h : bi b = 0) : b = false := by
  cases b
  · rfl
  · exact absurd h (by decide)
theorem bi_1 {b : Bool} (h : ¬ bi b = 0) : b = true := by
  cases b
  · exact absurd rfl h
  · rfl
def edge (a : Int32) : Bool := !(decide (a < -9999)) && !(decide (9999 < a))
def edge3 (x y z : Int32) : Bool := edge x && edge y && edge z
def some3 (x y z : Int32) : Bool := !(decide (x = 0) && decide (y = 0) && decide (z = 0))
/-- what tell answers on new objects -/
def tellF (x y z : Int32) : Int32 := if edge3 x y z = true then (if some3 x y z = true then 0 else -2) else -1
def frC (w w' : pW) : Prop := w'.1 = w.1 ∧ ∀ i, 467 ≤ i → w'.2 i = w.2 i
def M_Rows_divisor : pM := (⟨"CornerMaps$Rows", "divisor", "(JJ)J"⟩, prog_9_method_2_code, 11, some .long)
theorem co_Rows_divisor : CalOK M_Rows_divisor 2 := ⟨g_at 448 (by decide +kernel) rfl, g_at 15 (by decide +kernel) rfl, by decide +kernel, by decide +kernel, by decide +kernel⟩
theorem pn_Rows_divisor : plainName M_Rows_divisor.1.cls = true := by decide +kernel
def M_Rows_lastPlace : pM := (⟨"CornerMaps$Rows", "lastPlace", "([J)I"⟩, prog_9_method_4_code, 2, some .int)
theorem co_Rows_lastPlace : CalOK M_Rows_lastPlace 1 := ⟨g_at 454 (by decide +kernel) rfl, g_at 15 (by decide +kernel) rfl, by decide +kernel, by decide +kernel, by decide +kernel⟩
theorem pn_Rows_lastPlace : plainName M_Rows_lastPlace.1.cls = true := by decide +kernel
def M_Rows_reduce : pM := (⟨"CornerMaps$Rows", "reduce", "([J)V"⟩, prog_9_method_5_code, 4, none)
theorem co_Rows_reduce : CalOK M_Rows_reduce 1 := ⟨g_at 445 (by decide +kernel) rfl, g_at 15 (by decide +kernel) rfl, by decide +kernel, by decide +kernel, by decide +kernel⟩
theorem pn_Rows_reduce : plainName M_Rows_reduce.1.cls = true := by decide +kernel
def M_Rows_put : pM := (⟨"CornerMaps$Rows", "put", "(JJJ[J)V"⟩, prog_9_method_7_code, 7, none)
theorem co_Rows_put : CalOK M_Rows_put 4 := ⟨g_at 410 (by decide +kernel) rfl, g_at 15 (by decide +kernel) rfl, by decide +kernel, by decide +kernel, by decide +kernel⟩
theorem pn_Rows_put : plainName M_Rows_put.1.cls = true := by decide +kernel
def M_Rows_copy : pM := (⟨"CornerMaps$Rows", "copy", "([J[J)V"⟩, prog_9_method_8_code, 2, none)
theorem co_Rows_copy : CalOK M_Rows_copy 2 := ⟨g_at 477 (by decide +kernel) rfl, g_at 15 (by decide +kernel) rfl, by decide +kernel, by decide +kernel, by decide +kernel⟩
theorem pn_Rows_copy : plainName M_Rows_copy.1.cls = true := by decide +kernel
def M_CM_isSomething : pM := (⟨"CornerMaps", "isSomething", "(III)Z"⟩, prog_1_method_80_code, 3, some .boolean)
theorem co_CM_isSomething : CalOK M_CM_isSomething 3 := ⟨g_at 615 (by decide +kernel) rfl, g_at 1 (by decide +kernel) rfl, by decide +kernel, by decide +kernel, by decide +kernel⟩
theorem pn_CM_isSomething : plainName M_CM_isSomething.1.cls = true := by decide +kernel
def M_Past_nextPlace : pM := (⟨"CornerMaps$Past", "nextPlace", "()I"⟩, prog_5_method_7_code, 1, some .int)
theorem co_Past_nextPlace : CalOK M_Past_nextPlace 0 := ⟨g_at 553 (by decide +kernel) rfl, g_at 7 (by decide +kernel) rfl, by decide +kernel, by decide +kernel, by decide +kernel⟩
theorem pn_Past_nextPlace : plainName M_Past_nextPlace.1.cls = true := by decide +kernel
def M_Past_told : pM := (⟨"CornerMaps$Past", "told", "()V"⟩, prog_5_method_4_code, 1, none)
theorem co_Past_told : CalOK M_Past_told 0 := ⟨g_at 621 (by decide +kernel) rfl, g_at 7 (by decide +kernel) rfl, by decide +kernel, by decide +kernel, by decide +kernel⟩
theorem pn_Past_told : plainName M_Past_told.1.cls = true := by decide +kernel
def M_Plane_addPoint : pM := (⟨"CornerMaps$Plane", "addPoint", "([J)V"⟩, prog_6_method_9_code, 2, none)
theorem co_Plane_addPoint : CalOK M_Plane_addPoint 1 := ⟨g_at 490 (by decide +kernel) rfl, g_at 2 (by decide +kernel) rfl, by decide +kernel, by decide +kernel, by decide +kernel⟩
theorem pn_Plane_addPoint : plainName M_Plane_addPoint.1.cls = true := by decide +kernel
def M_MD_common : pM := (⟨"CornerMapsModel", "common", "(JJ)J"⟩, prog_12_method_23_code, 10, some .long)
theorem co_MD_common : CalOK M_MD_common 2 := ⟨g_at 1719 (by decide +kernel) rfl, g_at 13 (by decide +kernel) rfl, by decide +kernel, by decide +kernel, by decide +kernel⟩
theorem pn_MD_common : plainName M_MD_common.1.cls = true := by decide +kernel
def M_MD_reduces : pM := (⟨"CornerMapsModel", "reduces", "([J)V"⟩, prog_12_method_24_code, 6, none)
theorem co_MD_reduces : CalOK M_MD_reduces 1 := ⟨g_at 1716 (by decide +kernel) rfl, g_at 13 (by decide +kernel) rfl, by decide +kernel, by decide +kernel, by decide +kernel⟩
theorem pn_MD_reduces : plainName M_MD_reduces.1.cls = true := by decide +kernel
def M_MD_keeps : pM := (⟨"CornerMapsModel", "keeps", "()V"⟩, prog_12_method_51_code, 2, none)
theorem co_MD_keeps : CalOK M_MD_keeps 0 := ⟨g_at 1824 (by decide +kernel) rfl, g_at 13 (by decide +kernel) rfl, by decide +kernel, by decide +kernel, by decide +kernel⟩
theorem pn_MD_keeps : plainName M_MD_keeps.1.cls = true := by decide +kernel
def M_MD_laysThree : pM := (⟨"CornerMapsModel", "laysThree", "(JJJ)V"⟩, prog_12_method_25_code, 7, none)
theorem co_MD_laysThree : CalOK M_MD_laysThree 3 := ⟨g_at 1743 (by decide +kernel) rfl, g_at 13 (by decide +kernel) rfl, by decide +kernel, by decide +kernel, by decide +kernel⟩
theorem pn_MD_laysThree : plainName M_MD_laysThree.1.cls = true := by decide +kernel
def M_MD_putsPoint : pM := (⟨"CornerMapsModel", "putsPoint", "([JI)V"⟩, prog_12_method_28_code, 4, none)
theorem co_MD_putsPoint : CalOK M_MD_putsPoint 2 := ⟨g_at 1747 (by decide +kernel) rfl, g_at 13 (by decide +kernel) rfl, by decide +kernel, by decide +kernel, by decide +kernel⟩
theorem pn_MD_putsPoint : plainName M_MD_putsPoint.1.cls = true := by decide +kernel
theorem sm_Rows_lastPlace : Cond.static M_Rows_lastPlace.1 ∈ gtbl := g_at 453 (by decide +kernel) rfl
theorem sm_Rows_divisor : Cond.static M_Rows_divisor.1 ∈ gtbl := g_at 447 (by decide +kernel) rfl
theorem sm_CM_isNumber : Cond.static M_CM_isNumber.1 ∈ gtbl := g_at 611 (by decide +kernel) rfl
theorem sm_Rows_copy : Cond.static M_Rows_copy.1 ∈ gtbl := g_at 476 (by decide +kernel) rfl
theorem sm_Rows_reduce : Cond.static M_Rows_reduce.1 ∈ gtbl := g_at 444 (by decide +kernel) rfl
theorem sm_CM_areNumbers : Cond.static M_CM_areNumbers.1 ∈ gtbl := g_at 608 (by decide +kernel) rfl
theorem sm_CM_isSomething : Cond.static M_CM_isSomething.1 ∈ gtbl := g_at 614 (by decide +kernel) rfl
theorem sm_Rows_put : Cond.static M_Rows_put.1 ∈ gtbl := g_at 409 (by decide +kernel) rfl
theorem sm_MD_common : Cond.static M_MD_common.1 ∈ gtbl := g_at 1718 (by decide +kernel) rfl
theorem sm_MD_reduces : Cond.static M_MD_reduces.1 ∈ gtbl := g_at 1715 (by decide +kernel) rfl
theorem sm_MD_isEdge : Cond.static M_MD_isEdge.1 ∈ gtbl := g_at 1870 (by decide +kernel) rfl
theorem im_Past_nextPlace : Cond.instanceMethod M_Past_nextPlace.1 ∈ gtbl := g_at 552 (by decide +kernel) rfl
theorem se_Past_nextPlace : Cond.selects M_Past_nextPlace.1.cls M_Past_nextPlace.1 M_Past_nextPlace.1 ∈ gtbl := g_sel 16 (by decide +kernel) rfl
theorem im_Plane_addPoint : Cond.instanceMethod M_Plane_addPoint.1 ∈ gtbl := g_at 488 (by decide +kernel) rfl
theorem se_Plane_addPoint : Cond.selects M_Plane_addPoint.1.cls M_Plane_addPoint.1 M_Plane_addPoint.1 ∈ gtbl := g_at 489 (by decide +kernel) rfl
theorem im_Past_told : Cond.instanceMethod M_Past_told.1 ∈ gtbl := g_at 619 (by decide +kernel) rfl
theorem se_Past_told : Cond.selects M_Past_told.1.cls M_Past_told.1 M_Past_told.1 ∈ gtbl := g_at 620 (by decide +kernel) rfl
theorem im_MD_keeps : Cond.instanceMethod M_MD_keeps.1 ∈ gtbl := g_at 1823 (by decide +kernel) rfl
theorem se_MD_keeps : Cond.selects M_MD_keeps.1.cls M_MD_keeps.1 M_MD_keeps.1 ∈ gtbl := g_sel 71 (by decide +kernel) rfl
theorem im_MD_laysThree : Cond.instanceMethod M_MD_laysThree.1 ∈ gtbl := g_at 1742 (by decide +kernel) rfl
theorem se_MD_laysThree : Cond.selects M_MD_laysThree.1.cls M_MD_laysThree.1 M_MD_laysThree.1 ∈ gtbl := g_sel 61 (by decide +kernel) rfl
theorem im_MD_putsPoint : Cond.instanceMethod M_MD_putsPoint.1 ∈ gtbl := g_at 1746 (by decide +kernel) rfl
theorem se_MD_putsPoint : Cond.selects M_MD_putsPoint.1.cls M_MD_putsPoint.1 M_MD_putsPoint.1 ∈ gtbl := g_sel 62 (by decide +kernel) rfl
theorem L_Rows_9 : Cond.methodLink "CornerMaps$Rows" 9 ⟨"java/lang/Math", "abs", "(J)J"⟩ ∈ gtbl := g_at 449 (by decide +kernel) rfl
theorem L_Rows_21 : Cond.methodLink "CornerMaps$Rows" 21 ⟨"CornerMaps$Rows", "lastPlace", "([J)I"⟩ ∈ gtbl := g_at 452 (by decide +kernel) rfl
theorem L_Rows_17 : Cond.methodLink "CornerMaps$Rows" 17 ⟨"CornerMaps$Rows", "divisor", "(JJ)J"⟩ ∈ gtbl := g_at 446 (by decide +kernel) rfl
theorem L_Rows_25 : Cond.methodLink "CornerMaps$Rows" 25 ⟨"java/lang/Math", "min", "(II)I"⟩ ∈ gtbl := g_at 478 (by decide +kernel) rfl
theorem L_Rows_29 : Cond.methodLink "CornerMaps$Rows" 29 ⟨"java/lang/System", "arraycopy", "(Ljava/lang/Object;ILjava/lang/Object;II)V"⟩ ∈ gtbl := g_at 479 (by decide +kernel) rfl
theorem L_CM_443 : Cond.methodLink "CornerMaps" 443 ⟨"CornerMaps", "isNumber", "(I)Z"⟩ ∈ gtbl := g_at 610 (by decide +kernel) rfl
theorem L_Past_43 : Cond.fieldLink "CornerMaps$Past" 43 "CornerMaps$Past" "eldest" "I" ∈ gtbl := g_at 199 (by decide +kernel) rfl
theorem L_Past_27 : Cond.methodLink "CornerMaps$Past" 27 ⟨"CornerMaps$Past", "nextPlace", "()I"⟩ ∈ gtbl := g_at 550 (by decide +kernel) rfl
theorem L_Plane_39 : Cond.methodLink "CornerMaps$Plane" 39 ⟨"CornerMaps$Rows", "copy", "([J[J)V"⟩ ∈ gtbl := g_at 475 (by decide +kernel) rfl
theorem L_Plane_49 : Cond.methodLink "CornerMaps$Plane" 49 ⟨"CornerMaps$Rows", "reduce", "([J)V"⟩ ∈ gtbl := g_at 491 (by decide +kernel) rfl
theorem L_CM_228 : Cond.methodLink "CornerMaps" 228 ⟨"CornerMaps", "areNumbers", "(III)Z"⟩ ∈ gtbl := g_at 607 (by decide +kernel) rfl
theorem L_CM_235 : Cond.methodLink "CornerMaps" 235 ⟨"CornerMaps", "isSomething", "(III)Z"⟩ ∈ gtbl := g_at 613 (by decide +kernel) rfl
theorem L_CM_238 : Cond.methodLink "CornerMaps" 238 ⟨"CornerMaps$Rows", "put", "(JJJ[J)V"⟩ ∈ gtbl := g_at 616 (by decide +kernel) rfl
theorem L_CM_241 : Cond.methodLink "CornerMaps" 241 ⟨"CornerMaps$Plane", "addPoint", "([J)V"⟩ ∈ gtbl := g_at 617 (by decide +kernel) rfl
theorem L_CM_245 : Cond.methodLink "CornerMaps" 245 ⟨"CornerMaps$Past", "told", "()V"⟩ ∈ gtbl := g_at 618 (by decide +kernel) rfl
theorem L_MD_210 : Cond.methodLink "CornerMapsModel" 210 ⟨"java/lang/Math", "abs", "(J)J"⟩ ∈ gtbl := g_at 1720 (by decide +kernel) rfl
theorem L_MD_216 : Cond.methodLink "CornerMapsModel" 216 ⟨"CornerMapsModel", "common", "(JJ)J"⟩ ∈ gtbl := g_at 1717 (by decide +kernel) rfl
theorem L_MD_220 : Cond.methodLink "CornerMapsModel" 220 ⟨"CornerMapsModel", "reduces", "([J)V"⟩ ∈ gtbl := g_at 1714 (by decide +kernel) rfl
theorem L_MD_289 : Cond.methodLink "CornerMapsModel" 289 ⟨"CornerMapsModel", "isEdge", "(I)Z"⟩ ∈ gtbl := g_at 1869 (by decide +kernel) rfl
theorem L_MD_292 : Cond.constantLong "CornerMapsModel" 292 (8 : Int64) ∈ gtbl := g_at 1872 (by decide +kernel) rfl
theorem L_MD_268 : Cond.methodLink "CornerMapsModel" 268 ⟨"CornerMapsModel", "keeps", "()V"⟩ ∈ gtbl := g_at 1821 (by decide +kernel) rfl
theorem L_MD_179 : Cond.methodLink "CornerMapsModel" 179 ⟨"CornerMapsModel", "laysThree", "(JJJ)V"⟩ ∈ gtbl := g_at 1740 (by decide +kernel) rfl
theorem L_MD_183 : Cond.methodLink "CornerMapsModel" 183 ⟨"CornerMapsModel", "putsPoint", "([JI)V"⟩ ∈ gtbl := g_at 1744 (by decide +kernel) rfl
theorem F_Rows_divisor_0 : Jvm.Free.DS.Facts prog_9_method_2_code 0 [(.lload_n 0, 1), (.invokestatic 9, 3), (.lstore 4, 2), (.lload_n 2, 1), (.invokestatic 9, 3), (.lstore 6, 2), (.iconst 0, 1), (.istore 8, 2), (.iload 8, 2), (.sipush (1000), 3), (.if_icmp .ge (31), 3), (.lload 6, 2), (.lconst 0, 1), (.lcmp, 1), (.ifCond .eq (24), 3), (.lload 4, 2), (.lload 6, 2), (.lrem, 1), (.lstore 9, 2), (.lload 6, 2), (.lstore 4, 2), (.lload 9, 2), (.lstore 6, 2), (.iinc 8 (1), 3), (.goto (-33), 3), (.lload 4, 2), (.lreturn, 1)] := Jvm.Free.DS.facts 0 _ (by decide +kernel) (by decide +kernel)
theorem d_Rows_divisor_0 : decode prog_9_method_2_code 0 = .ok (.lload_n 0, 1) := F_Rows_divisor_0.1
theorem d_Rows_divisor_1 : decode prog_9_method_2_code 1 = .ok (.invokestatic 9, 3) := F_Rows_divisor_0.2.1
theorem d_Rows_divisor_4 : decode prog_9_method_2_code 4 = .ok (.lstore 4, 2) := F_Rows_divisor_0.2.2.1
theorem d_Rows_divisor_6 : decode prog_9_method_2_code 6 = .ok (.lload_n 2, 1) := F_Rows_divisor_0.2.2.2.1
theorem d_Rows_divisor_7 : decode prog_9_method_2_code 7 = .ok (.invokestatic 9, 3) := F_Rows_divisor_0.2.2.2.2.1
theorem d_Rows_divisor_10 : decode prog_9_method_2_code 10 = .ok (.lstore 6, 2) := F_Rows_divisor_0.2.2.2.2.2.1
theorem d_Rows_divisor_12 : decode prog_9_method_2_code 12 = .ok (.iconst 0, 1) := F_Rows_divisor_0.2.2.2.2.2.2.1
theorem d_Rows_divisor_13 : decode prog_9_method_2_code 13 = .ok (.istore 8, 2) := F_Rows_divisor_0.2.2.2.2.2.2.2.1
theorem d_Rows_divisor_15 : decode prog_9_method_2_code 15 = .ok (.iload 8, 2) := F_Rows_divisor_0.2.2.2.2.2.2.2.2.1
theorem d_Rows_divisor_17 : decode prog_9_method_2_code 17 = .ok (.sipush (1000), 3) := F_Rows_divisor_0.2.2.2.2.2.2.2.2.2.1
theorem d_Rows_divisor_20 : decode prog_9_method_2_code 20 = .ok (.if_icmp .ge (31), 3) := F_Rows_divisor_0.2.2.2.2.2.2.2.2.2.2.1
theorem d_Rows_divisor_23 : decode prog_9_method_2_code 23 = .ok (.lload 6, 2) := F_Rows_divisor_0.2.2.2.2.2.2.2.2.2.2.2.1
theorem d_Rows_divisor_25 : decode prog_9_method_2_code 25 = .ok (.lconst 0, 1) := F_Rows_divisor_0.2.2.2.2.2.2.2.2.2.2.2.2.1
theorem d_Rows_divisor_26 : decode prog_9_method_2_code 26 = .ok (.lcmp, 1) := F_Rows_divisor_0.2.2.2.2.2.2.2.2.2.2.2.2.2.1
theorem d_Rows_divisor_27 : decode prog_9_method_2_code 27 = .ok (.ifCond .eq (24), 3) := F_Rows_divisor_0.2.2.2.2.2.2.2.2.2.2.2.2.2.2.1
theorem d_Rows_divisor_30 : decode prog_9_method_2_code 30 = .ok (.lload 4, 2) := F_Rows_divisor_0.2.2.2.2.2.2.2.2.2.2.2.2.2.2.2.1
theorem d_Rows_divisor_32 : decode prog_9_method_2_code 32 = .ok (.lload 6, 2) := F_Rows_divisor_0.2.2.2.2.2.2.2.2.2.2.2.2.2.2.2.2.1
theorem d_Rows_divisor_34 : decode prog_9_method_2_code 34 = .ok (.lrem, 1) := F_Rows_divisor_0.2.2.2.2.2.2.2.2.2.2.2.2.2.2.2.2.2.1
theorem d_Rows_divisor_35 : decode prog_9_method_2_code 35 = .ok (.lstore 9, 2) := F_Rows_divisor_0.2.2.2.2.2.2.2.2.2.2.2.2.2.2.2.2.2.2.1
theorem d_Rows_divisor_37 : decode prog_9_method_2_code 37 = .ok (.lload 6, 2) := F_Rows_divisor_0.2.2.2.2.2.2.2.2.2.2.2.2.2.2.2.2.2.2.2.1
theorem d_Rows_divisor_39 : decode prog_9_method_2_code 39 = .ok (.lstore 4, 2) := F_Rows_divisor_0.2.2.2.2.2.2.2.2.2.2.2.2.2.2.2.2.2.2.2.2.1
theorem d_Rows_divisor_41 : decode prog_9_method_2_code 41 = .ok (.lload 9, 2) := F_Rows_divisor_0.2.2.2.2.2.2.2.2.2.2.2.2.2.2.2.2.2.2.2.2.2.1
theorem d_Rows_divisor_43 : decode prog_9_method_2_code 43 = .ok (.lstore 6, 2) := F_Rows_divisor_0.2.2.2.2.2.2.2.2.2.2.2.2.2.2.2.2.2.2.2.2.2.2.1
theorem d_Rows_divisor_45 : decode prog_9_method_2_code 45 = .ok (.iinc 8 (1), 3) := F_Rows_divisor_0.2.2.2.2.2.2.2.2.2.2.2.2.2.2.2.2.2.2.2.2.2.2.2.1
theorem d_Rows_divisor_48 : decode prog_9_method_2_code 48 = .ok (.goto (-33), 3) := F_Rows_divisor_0.2.2.2.2.2.2.2.2.2.2.2.2.2.2.2.2.2.2.2.2.2.2.2.2.1
theorem d_Rows_divisor_51 : decode prog_9_method_2_code 51 = .ok (.lload 4, 2) := F_Rows_divisor_0.2.2.2.2.2.2.2.2.2.2.2.2.2.2.2.2.2.2.2.2.2.2.2.2.2.1
theorem d_Rows_divisor_53 : decode prog_9_method_2_code 53 = .ok (.lreturn, 1) := F_Rows_divisor_0.2.2.2.2.2.2.2.2.2.2.2.2.2.2.2.2.2.2.2.2.2.2.2.2.2.2.1
theorem F_Rows_lastPlace_0 : Jvm.Free.DS.Facts prog_9_method_4_code 0 [(.aload_n 0, 1), (.arraylength, 1), (.iconst 1, 1), (.isub, 1), (.istore_n 1, 1), (.iload_n 1, 1), (.ifCond .le (19), 3), (.aload_n 0, 1), (.iload_n 1, 1), (.laload, 1), (.lconst 0, 1), (.lcmp, 1), (.ifCond .eq (5), 3), (.iload_n 1, 1), (.ireturn, 1), (.iinc 1 (-1), 3), (.goto (-17), 3), (.iconst 0, 1), (.ireturn, 1)] := Jvm.Free.DS.facts 0 _ (by decide +kernel) (by decide +kernel)
theorem d_Rows_lastPlace_0 : decode prog_9_method_4_code 0 = .ok (.aload_n 0, 1) := F_Rows_lastPlace_0.1
theorem d_Rows_lastPlace_1 : decode prog_9_method_4_code 1 = .ok (.arraylength, 1) := F_Rows_lastPlace_0.2.1
theorem d_Rows_lastPlace_2 : decode prog_9_method_4_code 2 = .ok (.iconst 1, 1) := F_Rows_lastPlace_0.2.2.1
theorem d_Rows_lastPlace_3 : decode prog_9_method_4_code 3 = .ok (.isub, 1) := F_Rows_lastPlace_0.2.2.2.1
theorem d_Rows_lastPlace_4 : decode prog_9_method_4_code 4 = .ok (.istore_n 1, 1) := F_Rows_lastPlace_0.2.2.2.2.1
theorem d_Rows_lastPlace_5 : decode prog_9_method_4_code 5 = .ok (.iload_n 1, 1) := F_Rows_lastPlace_0.2.2.2.2.2.1
theorem d_Rows_lastPlace_6 : decode prog_9_method_4_code 6 = .ok (.ifCond .le (19), 3) := F_Rows_lastPlace_0.2.2.2.2.2.2.1
theorem d_Rows_lastPlace_9 : decode prog_9_method_4_code 9 = .ok (.aload_n 0, 1) := F_Rows_lastPlace_0.2.2.2.2.2.2.2.1
theorem d_Rows_lastPlace_10 : decode prog_9_method_4_code 10 = .ok (.iload_n 1, 1) := F_Rows_lastPlace_0.2.2.2.2.2.2.2.2.1
theorem d_Rows_lastPlace_11 : decode prog_9_method_4_code 11 = .ok (.laload, 1) := F_Rows_lastPlace_0.2.2.2.2.2.2.2.2.2.1
theorem d_Rows_lastPlace_12 : decode prog_9_method_4_code 12 = .ok (.lconst 0, 1) := F_Rows_lastPlace_0.2.2.2.2.2.2.2.2.2.2.1
theorem d_Rows_lastPlace_13 : decode prog_9_method_4_code 13 = .ok (.lcmp, 1) := F_Rows_lastPlace_0.2.2.2.2.2.2.2.2.2.2.2.1
theorem d_Rows_lastPlace_14 : decode prog_9_method_4_code 14 = .ok (.ifCond .eq (5), 3) := F_Rows_lastPlace_0.2.2.2.2.2.2.2.2.2.2.2.2.1
theorem d_Rows_lastPlace_17 : decode prog_9_method_4_code 17 = .ok (.iload_n 1, 1) := F_Rows_lastPlace_0.2.2.2.2.2.2.2.2.2.2.2.2.2.1
theorem d_Rows_lastPlace_18 : decode prog_9_method_4_code 18 = .ok (.ireturn, 1) := F_Rows_lastPlace_0.2.2.2.2.2.2.2.2.2.2.2.2.2.2.1
theorem d_Rows_lastPlace_19 : decode prog_9_method_4_code 19 = .ok (.iinc 1 (-1), 3) := F_Rows_lastPlace_0.2.2.2.2.2.2.2.2.2.2.2.2.2.2.2.1
theorem d_Rows_lastPlace_22 : decode prog_9_method_4_code 22 = .ok (.goto (-17), 3) := F_Rows_lastPlace_0.2.2.2.2.2.2.2.2.2.2.2.2.2.2.2.2.1
theorem d_Rows_lastPlace_25 : decode prog_9_method_4_code 25 = .ok (.iconst 0, 1) := F_Rows_lastPlace_0.2.2.2.2.2.2.2.2.2.2.2.2.2.2.2.2.2.1
theorem d_Rows_lastPlace_26 : decode prog_9_method_4_code 26 = .ok (.ireturn, 1) := F_Rows_lastPlace_0.2.2.2.2.2.2.2.2.2.2.2.2.2.2.2.2.2.2.1
theorem F_Rows_reduce_0 : Jvm.Free.DS.Facts prog_9_method_5_code 0 [(.lconst 0, 1), (.lstore_n 1, 1), (.iconst 0, 1), (.istore_n 3, 1), (.iload_n 3, 1), (.aload_n 0, 1), (.arraylength, 1), (.if_icmp .ge (23), 3), (.lload_n 1, 1), (.lconst 1, 1), (.lcmp, 1), (.ifCond .eq (17), 3), (.lload_n 1, 1), (.aload_n 0, 1), (.iload_n 3, 1), (.laload, 1), (.invokestatic 17, 3), (.lstore_n 1, 1), (.iinc 3 (1), 3), (.goto (-23), 3), (.aload_n 0, 1), (.aload_n 0, 1), (.invokestatic 21, 3), (.laload, 1), (.lconst 0, 1), (.lcmp, 1), (.ifCond .ge (6), 3), (.lload_n 1, 1), (.lneg, 1), (.lstore_n 1, 1), (.lload_n 1, 1), (.lconst 0, 1)] := Jvm.Free.DS.facts 0 _ (by decide +kernel) (by decide +kernel)
theorem d_Rows_reduce_0 : decode prog_9_method_5_code 0 = .ok (.lconst 0, 1) := F_Rows_reduce_0.1
theorem d_Rows_reduce_1 : decode prog_9_method_5_code 1 = .ok (.lstore_n 1, 1) := F_Rows_reduce_0.2.1
theorem d_Rows_reduce_2 : decode prog_9_method_5_code 2 = .ok (.iconst 0, 1) := F_Rows_reduce_0.2.2.1
theorem d_Rows_reduce_3 : decode prog_9_method_5_code 3 = .ok (.istore_n 3, 1) := F_Rows_reduce_0.2.2.2.1
theorem d_Rows_reduce_4 : decode prog_9_method_5_code 4 = .ok (.iload_n 3, 1) := F_Rows_reduce_0.2.2.2.2.1
theorem d_Rows_reduce_5 : decode prog_9_method_5_code 5 = .ok (.aload_n 0, 1) := F_Rows_reduce_0.2.2.2.2.2.1
theorem d_Rows_reduce_6 : decode prog_9_method_5_code 6 = .ok (.arraylength, 1) := F_Rows_reduce_0.2.2.2.2.2.2.1
theorem d_Rows_reduce_7 : decode prog_9_method_5_code 7 = .ok (.if_icmp .ge (23), 3) := F_Rows_reduce_0.2.2.2.2.2.2.2.1
theorem d_Rows_reduce_10 : decode prog_9_method_5_code 10 = .ok (.lload_n 1, 1) := F_Rows_reduce_0.2.2.2.2.2.2.2.2.1
theorem d_Rows_reduce_11 : decode prog_9_method_5_code 11 = .ok (.lconst 1, 1) := F_Rows_reduce_0.2.2.2.2.2.2.2.2.2.1
theorem d_Rows_reduce_12 : decode prog_9_method_5_code 12 = .ok (.lcmp, 1) := F_Rows_reduce_0.2.2.2.2.2.2.2.2.2.2.1
theorem d_Rows_reduce_13 : decode prog_9_method_5_code 13 = .ok (.ifCond .eq (17), 3) := F_Rows_reduce_0.2.2.2.2.2.2.2.2.2.2.2.1
theorem d_Rows_reduce_16 : decode prog_9_method_5_code 16 = .ok (.lload_n 1, 1) := F_Rows_reduce_0.2.2.2.2.2.2.2.2.2.2.2.2.1
theorem d_Rows_reduce_17 : decode prog_9_method_5_code 17 = .ok (.aload_n 0, 1) := F_Rows_reduce_0.2.2.2.2.2.2.2.2.2.2.2.2.2.1
theorem d_Rows_reduce_18 : decode prog_9_method_5_code 18 = .ok (.iload_n 3, 1) := F_Rows_reduce_0.2.2.2.2.2.2.2.2.2.2.2.2.2.2.1
theorem d_Rows_reduce_19 : decode prog_9_method_5_code 19 = .ok (.laload, 1) := F_Rows_reduce_0.2.2.2.2.2.2.2.2.2.2.2.2.2.2.2.1
theorem d_Rows_reduce_20 : decode prog_9_method_5_code 20 = .ok (.invokestatic 17, 3) := F_Rows_reduce_0.2.2.2.2.2.2.2.2.2.2.2.2.2.2.2.2.1
theorem d_Rows_reduce_23 : decode prog_9_method_5_code 23 = .ok (.lstore_n 1, 1) := F_Rows_reduce_0.2.2.2.2.2.2.2.2.2.2.2.2.2.2.2.2.2.1
theorem d_Rows_reduce_24 : decode prog_9_method_5_code 24 = .ok (.iinc 3 (1), 3) := F_Rows_reduce_0.2.2.2.2.2.2.2.2.2.2.2.2.2.2.2.2.2.2.1
theorem d_Rows_reduce_27 : decode prog_9_method_5_code 27 = .ok (.goto (-23), 3) := F_Rows_reduce_0.2.2.2.2.2.2.2.2.2.2.2.2.2.2.2.2.2.2.2.1
theorem d_Rows_reduce_30 : decode prog_9_method_5_code 30 = .ok (.aload_n 0, 1) := F_Rows_reduce_0.2.2.2.2.2.2.2.2.2.2.2.2.2.2.2.2.2.2.2.2.1
theorem d_Rows_reduce_31 : decode prog_9_method_5_code 31 = .ok (.aload_n 0, 1) := F_Rows_reduce_0.2.2.2.2.2.2.2.2.2.2.2.2.2.2.2.2.2.2.2.2.2.1
theorem d_Rows_reduce_32 : decode prog_9_method_5_code 32 = .ok (.invokestatic 21, 3) := F_Rows_reduce_0.2.2.2.2.2.2.2.2.2.2.2.2.2.2.2.2.2.2.2.2.2.2.1
theorem d_Rows_reduce_35 : decode prog_9_method_5_code 35 = .ok (.laload, 1) := F_Rows_reduce_0.2.2.2.2.2.2.2.2.2.2.2.2.2.2.2.2.2.2.2.2.2.2.2.1
theorem d_Rows_reduce_36 : decode prog_9_method_5_code 36 = .ok (.lconst 0, 1) := F_Rows_reduce_0.2.2.2.2.2.2.2.2.2.2.2.2.2.2.2.2.2.2.2.2.2.2.2.2.1
theorem d_Rows_reduce_37 : decode prog_9_method_5_code 37 = .ok (.lcmp, 1) := F_Rows_reduce_0.2.2.2.2.2.2.2.2.2.2.2.2.2.2.2.2.2.2.2.2.2.2.2.2.2.1
theorem d_Rows_reduce_38 : decode prog_9_method_5_code 38 = .ok (.ifCond .ge (6), 3) := F_Rows_reduce_0.2.2.2.2.2.2.2.2.2.2.2.2.2.2.2.2.2.2.2.2.2.2.2.2.2.2.1
theorem d_Rows_reduce_41 : decode prog_9_method_5_code 41 = .ok (.lload_n 1, 1) := F_Rows_reduce_0.2.2.2.2.2.2.2.2.2.2.2.2.2.2.2.2.2.2.2.2.2.2.2.2.2.2.2.1
theorem d_Rows_reduce_42 : decode prog_9_method_5_code 42 = .ok (.lneg, 1) := F_Rows_reduce_0.2.2.2.2.2.2.2.2.2.2.2.2.2.2.2.2.2.2.2.2.2.2.2.2.2.2.2.2.1
theorem d_Rows_reduce_43 : decode prog_9_method_5_code 43 = .ok (.lstore_n 1, 1) := F_Rows_reduce_0.2.2.2.2.2.2.2.2.2.2.2.2.2.2.2.2.2.2.2.2.2.2.2.2.2.2.2.2.2.1
theorem d_Rows_reduce_44 : decode prog_9_method_5_code 44 = .ok (.lload_n 1, 1) := F_Rows_reduce_0.2.2.2.2.2.2.2.2.2.2.2.2.2.2.2.2.2.2.2.2.2.2.2.2.2.2.2.2.2.2.1
theorem d_Rows_reduce_45 : decode prog_9_method_5_code 45 = .ok (.lconst 0, 1) := F_Rows_reduce_0.2.2.2.2.2.2.2.2.2.2.2.2.2.2.2.2.2.2.2.2.2.2.2.2.2.2.2.2.2.2.2.1
theorem F_Rows_reduce_46 : Jvm.Free.DS.Facts prog_9_method_5_code 46 [(.lcmp, 1), (.ifCond .eq (9), 3), (.lload_n 1, 1), (.lconst 1, 1), (.lcmp, 1), (.ifCond .ne (4), 3), (.return_, 1), (.iconst 0, 1), (.istore_n 3, 1), (.iload_n 3, 1), (.aload_n 0, 1), (.arraylength, 1), (.if_icmp .ge (16), 3), (.aload_n 0, 1), (.iload_n 3, 1), (.dup2, 1), (.laload, 1), (.lload_n 1, 1), (.ldiv, 1), (.lastore, 1), (.iinc 3 (1), 3), (.goto (-16), 3), (.return_, 1)] := Jvm.Free.DS.facts 46 _ (by decide +kernel) (by decide +kernel)
theorem d_Rows_reduce_46 : decode prog_9_method_5_code 46 = .ok (.lcmp, 1) := F_Rows_reduce_46.1
theorem d_Rows_reduce_47 : decode prog_9_method_5_code 47 = .ok (.ifCond .eq (9), 3) := F_Rows_reduce_46.2.1
theorem d_Rows_reduce_50 : decode prog_9_method_5_code 50 = .ok (.lload_n 1, 1) := F_Rows_reduce_46.2.2.1
theorem d_Rows_reduce_51 : decode prog_9_method_5_code 51 = .ok (.lconst 1, 1) := F_Rows_reduce_46.2.2.2.1
theorem d_Rows_reduce_52 : decode prog_9_method_5_code 52 = .ok (.lcmp, 1) := F_Rows_reduce_46.2.2.2.2.1
theorem d_Rows_reduce_53 : decode prog_9_method_5_code 53 = .ok (.ifCond .ne (4), 3) := F_Rows_reduce_46.2.2.2.2.2.1
theorem d_Rows_reduce_56 : decode prog_9_method_5_code 56 = .ok (.return_, 1) := F_Rows_reduce_46.2.2.2.2.2.2.1
theorem d_Rows_reduce_57 : decode prog_9_method_5_code 57 = .ok (.iconst 0, 1) := F_Rows_reduce_46.2.2.2.2.2.2.2.1
theorem d_Rows_reduce_58 : decode prog_9_method_5_code 58 = .ok (.istore_n 3, 1) := F_Rows_reduce_46.2.2.2.2.2.2.2.2.1
theorem d_Rows_reduce_59 : decode prog_9_method_5_code 59 = .ok (.iload_n 3, 1) := F_Rows_reduce_46.2.2.2.2.2.2.2.2.2.1
theorem d_Rows_reduce_60 : decode prog_9_method_5_code 60 = .ok (.aload_n 0, 1) := F_Rows_reduce_46.2.2.2.2.2.2.2.2.2.2.1
theorem d_Rows_reduce_61 : decode prog_9_method_5_code 61 = .ok (.arraylength, 1) := F_Rows_reduce_46.2.2.2.2.2.2.2.2.2.2.2.1
theorem d_Rows_reduce_62 : decode prog_9_method_5_code 62 = .ok (.if_icmp .ge (16), 3) := F_Rows_reduce_46.2.2.2.2.2.2.2.2.2.2.2.2.1
theorem d_Rows_reduce_65 : decode prog_9_method_5_code 65 = .ok (.aload_n 0, 1) := F_Rows_reduce_46.2.2.2.2.2.2.2.2.2.2.2.2.2.1
theorem d_Rows_reduce_66 : decode prog_9_method_5_code 66 = .ok (.iload_n 3, 1) := F_Rows_reduce_46.2.2.2.2.2.2.2.2.2.2.2.2.2.2.1
theorem d_Rows_reduce_67 : decode prog_9_method_5_code 67 = .ok (.dup2, 1) := F_Rows_reduce_46.2.2.2.2.2.2.2.2.2.2.2.2.2.2.2.1
theorem d_Rows_reduce_68 : decode prog_9_method_5_code 68 = .ok (.laload, 1) := F_Rows_reduce_46.2.2.2.2.2.2.2.2.2.2.2.2.2.2.2.2.1
theorem d_Rows_reduce_69 : decode prog_9_method_5_code 69 = .ok (.lload_n 1, 1) := F_Rows_reduce_46.2.2.2.2.2.2.2.2.2.2.2.2.2.2.2.2.2.1
theorem d_Rows_reduce_70 : decode prog_9_method_5_code 70 = .ok (.ldiv, 1) := F_Rows_reduce_46.2.2.2.2.2.2.2.2.2.2.2.2.2.2.2.2.2.2.1
theorem d_Rows_reduce_71 : decode prog_9_method_5_code 71 = .ok (.lastore, 1) := F_Rows_reduce_46.2.2.2.2.2.2.2.2.2.2.2.2.2.2.2.2.2.2.2.1
theorem d_Rows_reduce_72 : decode prog_9_method_5_code 72 = .ok (.iinc 3 (1), 3) := F_Rows_reduce_46.2.2.2.2.2.2.2.2.2.2.2.2.2.2.2.2.2.2.2.2.1
theorem d_Rows_reduce_75 : decode prog_9_method_5_code 75 = .ok (.goto (-16), 3) := F_Rows_reduce_46.2.2.2.2.2.2.2.2.2.2.2.2.2.2.2.2.2.2.2.2.2.1
theorem d_Rows_reduce_78 : decode prog_9_method_5_code 78 = .ok (.return_, 1) := F_Rows_reduce_46.2.2.2.2.2.2.2.2.2.2.2.2.2.2.2.2.2.2.2.2.2.2.1
theorem F_Rows_put_0 : Jvm.Free.DS.Facts prog_9_method_7_code 0 [(.aload 6, 2), (.iconst 0, 1), (.lload_n 0, 1), (.lastore, 1), (.aload 6, 2), (.iconst 1, 1), (.lload_n 2, 1), (.lastore, 1), (.aload 6, 2), (.iconst 2, 1), (.lload 4, 2), (.lastore, 1), (.return_, 1)] := Jvm.Free.DS.facts 0 _ (by decide +kernel) (by decide +kernel)
theorem d_Rows_put_0 : decode prog_9_method_7_code 0 = .ok (.aload 6, 2) := F_Rows_put_0.1
theorem d_Rows_put_2 : decode prog_9_method_7_code 2 = .ok (.iconst 0, 1) := F_Rows_put_0.2.1
theorem d_Rows_put_3 : decode prog_9_method_7_code 3 = .ok (.lload_n 0, 1) := F_Rows_put_0.2.2.1
theorem d_Rows_put_4 : decode prog_9_method_7_code 4 = .ok (.lastore, 1) := F_Rows_put_0.2.2.2.1
theorem d_Rows_put_5 : decode prog_9_method_7_code 5 = .ok (.aload 6, 2) := F_Rows_put_0.2.2.2.2.1
theorem d_Rows_put_7 : decode prog_9_method_7_code 7 = .ok (.iconst 1, 1) := F_Rows_put_0.2.2.2.2.2.1
theorem d_Rows_put_8 : decode prog_9_method_7_code 8 = .ok (.lload_n 2, 1) := F_Rows_put_0.2.2.2.2.2.2.1
theorem d_Rows_put_9 : decode prog_9_method_7_code 9 = .ok (.lastore, 1) := F_Rows_put_0.2.2.2.2.2.2.2.1
theorem d_Rows_put_10 : decode prog_9_method_7_code 10 = .ok (.aload 6, 2) := F_Rows_put_0.2.2.2.2.2.2.2.2.1
theorem d_Rows_put_12 : decode prog_9_method_7_code 12 = .ok (.iconst 2, 1) := F_Rows_put_0.2.2.2.2.2.2.2.2.2.1
theorem d_Rows_put_13 : decode prog_9_method_7_code 13 = .ok (.lload 4, 2) := F_Rows_put_0.2.2.2.2.2.2.2.2.2.2.1
theorem d_Rows_put_15 : decode prog_9_method_7_code 15 = .ok (.lastore, 1) := F_Rows_put_0.2.2.2.2.2.2.2.2.2.2.2.1
theorem d_Rows_put_16 : decode prog_9_method_7_code 16 = .ok (.return_, 1) := F_Rows_put_0.2.2.2.2.2.2.2.2.2.2.2.2.1
theorem F_Rows_copy_0 : Jvm.Free.DS.Facts prog_9_method_8_code 0 [(.aload_n 0, 1), (.iconst 0, 1), (.aload_n 1, 1), (.iconst 0, 1), (.aload_n 0, 1), (.arraylength, 1), (.aload_n 1, 1), (.arraylength, 1), (.invokestatic 25, 3), (.invokestatic 29, 3), (.return_, 1)] := Jvm.Free.DS.facts 0 _ (by decide +kernel) (by decide +kernel)
theorem d_Rows_copy_0 : decode prog_9_method_8_code 0 = .ok (.aload_n 0, 1) := F_Rows_copy_0.1
theorem d_Rows_copy_1 : decode prog_9_method_8_code 1 = .ok (.iconst 0, 1) := F_Rows_copy_0.2.1
theorem d_Rows_copy_2 : decode prog_9_method_8_code 2 = .ok (.aload_n 1, 1) := F_Rows_copy_0.2.2.1
theorem d_Rows_copy_3 : decode prog_9_method_8_code 3 = .ok (.iconst 0, 1) := F_Rows_copy_0.2.2.2.1
theorem d_Rows_copy_4 : decode prog_9_method_8_code 4 = .ok (.aload_n 0, 1) := F_Rows_copy_0.2.2.2.2.1
theorem d_Rows_copy_5 : decode prog_9_method_8_code 5 = .ok (.arraylength, 1) := F_Rows_copy_0.2.2.2.2.2.1
theorem d_Rows_copy_6 : decode prog_9_method_8_code 6 = .ok (.aload_n 1, 1) := F_Rows_copy_0.2.2.2.2.2.2.1
theorem d_Rows_copy_7 : decode prog_9_method_8_code 7 = .ok (.arraylength, 1) := F_Rows_copy_0.2.2.2.2.2.2.2.1
theorem d_Rows_copy_8 : decode prog_9_method_8_code 8 = .ok (.invokestatic 25, 3) := F_Rows_copy_0.2.2.2.2.2.2.2.2.1
theorem d_Rows_copy_11 : decode prog_9_method_8_code 11 = .ok (.invokestatic 29, 3) := F_Rows_copy_0.2.2.2.2.2.2.2.2.2.1
theorem d_Rows_copy_14 : decode prog_9_method_8_code 14 = .ok (.return_, 1) := F_Rows_copy_0.2.2.2.2.2.2.2.2.2.2.1
theorem F_CM_areNumbers_4 : Jvm.Free.DS.Facts prog_1_method_79_code 4 [(.ifCond .eq (21), 3), (.iload_n 1, 1), (.invokestatic 443, 3), (.ifCond .eq (14), 3), (.iload_n 2, 1), (.invokestatic 443, 3), (.ifCond .eq (7), 3), (.iconst 1, 1), (.goto (4), 3), (.iconst 0, 1), (.ireturn, 1)] := Jvm.Free.DS.facts 4 _ (by decide +kernel) (by decide +kernel)
theorem d_CM_areNumbers_4 : decode prog_1_method_79_code 4 = .ok (.ifCond .eq (21), 3) := F_CM_areNumbers_4.1
theorem d_CM_areNumbers_7 : decode prog_1_method_79_code 7 = .ok (.iload_n 1, 1) := F_CM_areNumbers_4.2.1
theorem d_CM_areNumbers_8 : decode prog_1_method_79_code 8 = .ok (.invokestatic 443, 3) := F_CM_areNumbers_4.2.2.1
theorem d_CM_areNumbers_11 : decode prog_1_method_79_code 11 = .ok (.ifCond .eq (14), 3) := F_CM_areNumbers_4.2.2.2.1
theorem d_CM_areNumbers_14 : decode prog_1_method_79_code 14 = .ok (.iload_n 2, 1) := F_CM_areNumbers_4.2.2.2.2.1
theorem d_CM_areNumbers_15 : decode prog_1_method_79_code 15 = .ok (.invokestatic 443, 3) := F_CM_areNumbers_4.2.2.2.2.2.1
theorem d_CM_areNumbers_18 : decode prog_1_method_79_code 18 = .ok (.ifCond .eq (7), 3) := F_CM_areNumbers_4.2.2.2.2.2.2.1
theorem d_CM_areNumbers_21 : decode prog_1_method_79_code 21 = .ok (.iconst 1, 1) := F_CM_areNumbers_4.2.2.2.2.2.2.2.1
theorem d_CM_areNumbers_22 : decode prog_1_method_79_code 22 = .ok (.goto (4), 3) := F_CM_areNumbers_4.2.2.2.2.2.2.2.2.1
theorem d_CM_areNumbers_25 : decode prog_1_method_79_code 25 = .ok (.iconst 0, 1) := F_CM_areNumbers_4.2.2.2.2.2.2.2.2.2.1
theorem d_CM_areNumbers_26 : decode prog_1_method_79_code 26 = .ok (.ireturn, 1) := F_CM_areNumbers_4.2.2.2.2.2.2.2.2.2.2.1
theorem F_CM_isSomething_0 : Jvm.Free.DS.Facts prog_1_method_80_code 0 [(.iload_n 0, 1), (.ifCond .ne (11), 3), (.iload_n 1, 1), (.ifCond .ne (7), 3), (.iload_n 2, 1), (.ifCond .eq (7), 3), (.iconst 1, 1), (.goto (4), 3), (.iconst 0, 1), (.ireturn, 1)] := Jvm.Free.DS.facts 0 _ (by decide +kernel) (by decide +kernel)
theorem d_CM_isSomething_0 : decode prog_1_method_80_code 0 = .ok (.iload_n 0, 1) := F_CM_isSomething_0.1
theorem d_CM_isSomething_1 : decode prog_1_method_80_code 1 = .ok (.ifCond .ne (11), 3) := F_CM_isSomething_0.2.1
theorem d_CM_isSomething_4 : decode prog_1_method_80_code 4 = .ok (.iload_n 1, 1) := F_CM_isSomething_0.2.2.1
theorem d_CM_isSomething_5 : decode prog_1_method_80_code 5 = .ok (.ifCond .ne (7), 3) := F_CM_isSomething_0.2.2.2.1
theorem d_CM_isSomething_8 : decode prog_1_method_80_code 8 = .ok (.iload_n 2, 1) := F_CM_isSomething_0.2.2.2.2.1
theorem d_CM_isSomething_9 : decode prog_1_method_80_code 9 = .ok (.ifCond .eq (7), 3) := F_CM_isSomething_0.2.2.2.2.2.1
theorem d_CM_isSomething_12 : decode prog_1_method_80_code 12 = .ok (.iconst 1, 1) := F_CM_isSomething_0.2.2.2.2.2.2.1
theorem d_CM_isSomething_13 : decode prog_1_method_80_code 13 = .ok (.goto (4), 3) := F_CM_isSomething_0.2.2.2.2.2.2.2.1
theorem d_CM_isSomething_16 : decode prog_1_method_80_code 16 = .ok (.iconst 0, 1) := F_CM_isSomething_0.2.2.2.2.2.2.2.2.1
theorem d_CM_isSomething_17 : decode prog_1_method_80_code 17 = .ok (.ireturn, 1) := F_CM_isSomething_0.2.2.2.2.2.2.2.2.2.1
theorem F_Past_nextPlace_0 : Jvm.Free.DS.Facts prog_5_method_7_code 0 [(.aload_n 0, 1), (.getfield 23, 3), (.bipush (16), 2), (.if_icmp .ne (19), 3)] := Jvm.Free.DS.facts 0 _ (by decide +kernel) (by decide +kernel)
theorem d_Past_nextPlace_0 : decode prog_5_method_7_code 0 = .ok (.aload_n 0, 1) := F_Past_nextPlace_0.1
theorem d_Past_nextPlace_1 : decode prog_5_method_7_code 1 = .ok (.getfield 23, 3) := F_Past_nextPlace_0.2.1
theorem d_Past_nextPlace_4 : decode prog_5_method_7_code 4 = .ok (.bipush (16), 2) := F_Past_nextPlace_0.2.2.1
theorem d_Past_nextPlace_6 : decode prog_5_method_7_code 6 = .ok (.if_icmp .ne (19), 3) := F_Past_nextPlace_0.2.2.2.1
theorem F_Past_nextPlace_25 : Jvm.Free.DS.Facts prog_5_method_7_code 25 [(.aload_n 0, 1), (.dup, 1), (.getfield 23, 3), (.iconst 1, 1), (.iadd, 1), (.putfield 23, 3), (.aload_n 0, 1), (.getfield 43, 3), (.aload_n 0, 1), (.getfield 23, 3), (.iadd, 1), (.iconst 1, 1), (.isub, 1), (.bipush (16), 2), (.irem, 1), (.ireturn, 1)] := Jvm.Free.DS.facts 25 _ (by decide +kernel) (by decide +kernel)
theorem d_Past_nextPlace_25 : decode prog_5_method_7_code 25 = .ok (.aload_n 0, 1) := F_Past_nextPlace_25.1
theorem d_Past_nextPlace_26 : decode prog_5_method_7_code 26 = .ok (.dup, 1) := F_Past_nextPlace_25.2.1
theorem d_Past_nextPlace_27 : decode prog_5_method_7_code 27 = .ok (.getfield 23, 3) := F_Past_nextPlace_25.2.2.1
theorem d_Past_nextPlace_30 : decode prog_5_method_7_code 30 = .ok (.iconst 1, 1) := F_Past_nextPlace_25.2.2.2.1
theorem d_Past_nextPlace_31 : decode prog_5_method_7_code 31 = .ok (.iadd, 1) := F_Past_nextPlace_25.2.2.2.2.1
theorem d_Past_nextPlace_32 : decode prog_5_method_7_code 32 = .ok (.putfield 23, 3) := F_Past_nextPlace_25.2.2.2.2.2.1
theorem d_Past_nextPlace_35 : decode prog_5_method_7_code 35 = .ok (.aload_n 0, 1) := F_Past_nextPlace_25.2.2.2.2.2.2.1
theorem d_Past_nextPlace_36 : decode prog_5_method_7_code 36 = .ok (.getfield 43, 3) := F_Past_nextPlace_25.2.2.2.2.2.2.2.1
theorem d_Past_nextPlace_39 : decode prog_5_method_7_code 39 = .ok (.aload_n 0, 1) := F_Past_nextPlace_25.2.2.2.2.2.2.2.2.1
theorem d_Past_nextPlace_40 : decode prog_5_method_7_code 40 = .ok (.getfield 23, 3) := F_Past_nextPlace_25.2.2.2.2.2.2.2.2.2.1
theorem d_Past_nextPlace_43 : decode prog_5_method_7_code 43 = .ok (.iadd, 1) := F_Past_nextPlace_25.2.2.2.2.2.2.2.2.2.2.1
theorem d_Past_nextPlace_44 : decode prog_5_method_7_code 44 = .ok (.iconst 1, 1) := F_Past_nextPlace_25.2.2.2.2.2.2.2.2.2.2.2.1
theorem d_Past_nextPlace_45 : decode prog_5_method_7_code 45 = .ok (.isub, 1) := F_Past_nextPlace_25.2.2.2.2.2.2.2.2.2.2.2.2.1
theorem d_Past_nextPlace_46 : decode prog_5_method_7_code 46 = .ok (.bipush (16), 2) := F_Past_nextPlace_25.2.2.2.2.2.2.2.2.2.2.2.2.2.1
theorem d_Past_nextPlace_48 : decode prog_5_method_7_code 48 = .ok (.irem, 1) := F_Past_nextPlace_25.2.2.2.2.2.2.2.2.2.2.2.2.2.2.1
theorem d_Past_nextPlace_49 : decode prog_5_method_7_code 49 = .ok (.ireturn, 1) := F_Past_nextPlace_25.2.2.2.2.2.2.2.2.2.2.2.2.2.2.2.1
theorem F_Past_told_0 : Jvm.Free.DS.Facts prog_5_method_4_code 0 [(.aload_n 0, 1), (.getfield 9, 3), (.aload_n 0, 1), (.invokevirtual 27, 3), (.iconst 2, 1), (.iastore, 1), (.return_, 1)] := Jvm.Free.DS.facts 0 _ (by decide +kernel) (by decide +kernel)
theorem d_Past_told_0 : decode prog_5_method_4_code 0 = .ok (.aload_n 0, 1) := F_Past_told_0.1
theorem d_Past_told_1 : decode prog_5_method_4_code 1 = .ok (.getfield 9, 3) := F_Past_told_0.2.1
theorem d_Past_told_4 : decode prog_5_method_4_code 4 = .ok (.aload_n 0, 1) := F_Past_told_0.2.2.1
theorem d_Past_told_5 : decode prog_5_method_4_code 5 = .ok (.invokevirtual 27, 3) := F_Past_told_0.2.2.2.1
theorem d_Past_told_8 : decode prog_5_method_4_code 8 = .ok (.iconst 2, 1) := F_Past_told_0.2.2.2.2.1
theorem d_Past_told_9 : decode prog_5_method_4_code 9 = .ok (.iastore, 1) := F_Past_told_0.2.2.2.2.2.1
theorem d_Past_told_10 : decode prog_5_method_4_code 10 = .ok (.return_, 1) := F_Past_told_0.2.2.2.2.2.2.1
theorem F_Plane_addPoint_0 : Jvm.Free.DS.Facts prog_6_method_9_code 0 [(.aload_n 0, 1), (.getfield 36, 3), (.bipush (8), 2), (.if_icmp .ge (38), 3), (.aload_n 1, 1), (.aload_n 0, 1), (.getfield 22, 3), (.aload_n 0, 1), (.getfield 36, 3), (.aaload, 1), (.invokestatic 39, 3), (.aload_n 0, 1), (.getfield 22, 3), (.aload_n 0, 1), (.getfield 36, 3), (.aaload, 1), (.invokestatic 49, 3), (.aload_n 0, 1), (.dup, 1), (.getfield 36, 3), (.iconst 1, 1), (.iadd, 1), (.putfield 36, 3), (.return_, 1)] := Jvm.Free.DS.facts 0 _ (by decide +kernel) (by decide +kernel)
theorem d_Plane_addPoint_0 : decode prog_6_method_9_code 0 = .ok (.aload_n 0, 1) := F_Plane_addPoint_0.1
theorem d_Plane_addPoint_1 : decode prog_6_method_9_code 1 = .ok (.getfield 36, 3) := F_Plane_addPoint_0.2.1
theorem d_Plane_addPoint_4 : decode prog_6_method_9_code 4 = .ok (.bipush (8), 2) := F_Plane_addPoint_0.2.2.1
theorem d_Plane_addPoint_6 : decode prog_6_method_9_code 6 = .ok (.if_icmp .ge (38), 3) := F_Plane_addPoint_0.2.2.2.1
theorem d_Plane_addPoint_9 : decode prog_6_method_9_code 9 = .ok (.aload_n 1, 1) := F_Plane_addPoint_0.2.2.2.2.1
theorem d_Plane_addPoint_10 : decode prog_6_method_9_code 10 = .ok (.aload_n 0, 1) := F_Plane_addPoint_0.2.2.2.2.2.1
theorem d_Plane_addPoint_11 : decode prog_6_method_9_code 11 = .ok (.getfield 22, 3) := F_Plane_addPoint_0.2.2.2.2.2.2.1
theorem d_Plane_addPoint_14 : decode prog_6_method_9_code 14 = .ok (.aload_n 0, 1) := F_Plane_addPoint_0.2.2.2.2.2.2.2.1
theorem d_Plane_addPoint_15 : decode prog_6_method_9_code 15 = .ok (.getfield 36, 3) := F_Plane_addPoint_0.2.2.2.2.2.2.2.2.1
theorem d_Plane_addPoint_18 : decode prog_6_method_9_code 18 = .ok (.aaload, 1) := F_Plane_addPoint_0.2.2.2.2.2.2.2.2.2.1
theorem d_Plane_addPoint_19 : decode prog_6_method_9_code 19 = .ok (.invokestatic 39, 3) := F_Plane_addPoint_0.2.2.2.2.2.2.2.2.2.2.1
theorem d_Plane_addPoint_22 : decode prog_6_method_9_code 22 = .ok (.aload_n 0, 1) := F_Plane_addPoint_0.2.2.2.2.2.2.2.2.2.2.2.1
theorem d_Plane_addPoint_23 : decode prog_6_method_9_code 23 = .ok (.getfield 22, 3) := F_Plane_addPoint_0.2.2.2.2.2.2.2.2.2.2.2.2.1
theorem d_Plane_addPoint_26 : decode prog_6_method_9_code 26 = .ok (.aload_n 0, 1) := F_Plane_addPoint_0.2.2.2.2.2.2.2.2.2.2.2.2.2.1
theorem d_Plane_addPoint_27 : decode prog_6_method_9_code 27 = .ok (.getfield 36, 3) := F_Plane_addPoint_0.2.2.2.2.2.2.2.2.2.2.2.2.2.2.1
theorem d_Plane_addPoint_30 : decode prog_6_method_9_code 30 = .ok (.aaload, 1) := F_Plane_addPoint_0.2.2.2.2.2.2.2.2.2.2.2.2.2.2.2.1
theorem d_Plane_addPoint_31 : decode prog_6_method_9_code 31 = .ok (.invokestatic 49, 3) := F_Plane_addPoint_0.2.2.2.2.2.2.2.2.2.2.2.2.2.2.2.2.1
theorem d_Plane_addPoint_34 : decode prog_6_method_9_code 34 = .ok (.aload_n 0, 1) := F_Plane_addPoint_0.2.2.2.2.2.2.2.2.2.2.2.2.2.2.2.2.2.1
theorem d_Plane_addPoint_35 : decode prog_6_method_9_code 35 = .ok (.dup, 1) := F_Plane_addPoint_0.2.2.2.2.2.2.2.2.2.2.2.2.2.2.2.2.2.2.1
theorem d_Plane_addPoint_36 : decode prog_6_method_9_code 36 = .ok (.getfield 36, 3) := F_Plane_addPoint_0.2.2.2.2.2.2.2.2.2.2.2.2.2.2.2.2.2.2.2.1
theorem d_Plane_addPoint_39 : decode prog_6_method_9_code 39 = .ok (.iconst 1, 1) := F_Plane_addPoint_0.2.2.2.2.2.2.2.2.2.2.2.2.2.2.2.2.2.2.2.2.1
theorem d_Plane_addPoint_40 : decode prog_6_method_9_code 40 = .ok (.iadd, 1) := F_Plane_addPoint_0.2.2.2.2.2.2.2.2.2.2.2.2.2.2.2.2.2.2.2.2.2.1
theorem d_Plane_addPoint_41 : decode prog_6_method_9_code 41 = .ok (.putfield 36, 3) := F_Plane_addPoint_0.2.2.2.2.2.2.2.2.2.2.2.2.2.2.2.2.2.2.2.2.2.2.1
theorem d_Plane_addPoint_44 : decode prog_6_method_9_code 44 = .ok (.return_, 1) := F_Plane_addPoint_0.2.2.2.2.2.2.2.2.2.2.2.2.2.2.2.2.2.2.2.2.2.2.2.1
theorem F_CM_tell_6 : Jvm.Free.DS.Facts prog_1_method_17_code 6 [(.ifCond .ne (5), 3), (.iconst (-1), 1), (.ireturn, 1), (.aload_n 0, 1), (.getfield 12, 3), (.getfield 232, 3), (.bipush (8), 2), (.if_icmp .eq (12), 3), (.iload_n 1, 1), (.iload_n 2, 1), (.iload_n 3, 1), (.invokestatic 235, 3), (.ifCond .ne (6), 3), (.bipush (-2), 2), (.ireturn, 1), (.iload_n 1, 1), (.i2l, 1), (.iload_n 2, 1), (.i2l, 1), (.iload_n 3, 1), (.i2l, 1), (.aload_n 0, 1), (.getfield 75, 3), (.invokestatic 238, 3), (.aload_n 0, 1), (.getfield 12, 3), (.aload_n 0, 1), (.getfield 75, 3), (.invokevirtual 241, 3), (.aload_n 0, 1), (.getfield 47, 3), (.invokevirtual 245, 3)] := Jvm.Free.DS.facts 6 _ (by decide +kernel) (by decide +kernel)
theorem d_CM_tell_6 : decode prog_1_method_17_code 6 = .ok (.ifCond .ne (5), 3) := F_CM_tell_6.1
theorem d_CM_tell_9 : decode prog_1_method_17_code 9 = .ok (.iconst (-1), 1) := F_CM_tell_6.2.1
theorem d_CM_tell_10 : decode prog_1_method_17_code 10 = .ok (.ireturn, 1) := F_CM_tell_6.2.2.1
theorem d_CM_tell_11 : decode prog_1_method_17_code 11 = .ok (.aload_n 0, 1) := F_CM_tell_6.2.2.2.1
theorem d_CM_tell_12 : decode prog_1_method_17_code 12 = .ok (.getfield 12, 3) := F_CM_tell_6.2.2.2.2.1
theorem d_CM_tell_15 : decode prog_1_method_17_code 15 = .ok (.getfield 232, 3) := F_CM_tell_6.2.2.2.2.2.1
theorem d_CM_tell_18 : decode prog_1_method_17_code 18 = .ok (.bipush (8), 2) := F_CM_tell_6.2.2.2.2.2.2.1
theorem d_CM_tell_20 : decode prog_1_method_17_code 20 = .ok (.if_icmp .eq (12), 3) := F_CM_tell_6.2.2.2.2.2.2.2.1
theorem d_CM_tell_23 : decode prog_1_method_17_code 23 = .ok (.iload_n 1, 1) := F_CM_tell_6.2.2.2.2.2.2.2.2.1
theorem d_CM_tell_24 : decode prog_1_method_17_code 24 = .ok (.iload_n 2, 1) := F_CM_tell_6.2.2.2.2.2.2.2.2.2.1
theorem d_CM_tell_25 : decode prog_1_method_17_code 25 = .ok (.iload_n 3, 1) := F_CM_tell_6.2.2.2.2.2.2.2.2.2.2.1
theorem d_CM_tell_26 : decode prog_1_method_17_code 26 = .ok (.invokestatic 235, 3) := F_CM_tell_6.2.2.2.2.2.2.2.2.2.2.2.1
theorem d_CM_tell_29 : decode prog_1_method_17_code 29 = .ok (.ifCond .ne (6), 3) := F_CM_tell_6.2.2.2.2.2.2.2.2.2.2.2.2.1
theorem d_CM_tell_32 : decode prog_1_method_17_code 32 = .ok (.bipush (-2), 2) := F_CM_tell_6.2.2.2.2.2.2.2.2.2.2.2.2.2.1
theorem d_CM_tell_34 : decode prog_1_method_17_code 34 = .ok (.ireturn, 1) := F_CM_tell_6.2.2.2.2.2.2.2.2.2.2.2.2.2.2.1
theorem d_CM_tell_35 : decode prog_1_method_17_code 35 = .ok (.iload_n 1, 1) := F_CM_tell_6.2.2.2.2.2.2.2.2.2.2.2.2.2.2.2.1
theorem d_CM_tell_36 : decode prog_1_method_17_code 36 = .ok (.i2l, 1) := F_CM_tell_6.2.2.2.2.2.2.2.2.2.2.2.2.2.2.2.2.1
theorem d_CM_tell_37 : decode prog_1_method_17_code 37 = .ok (.iload_n 2, 1) := F_CM_tell_6.2.2.2.2.2.2.2.2.2.2.2.2.2.2.2.2.2.1
theorem d_CM_tell_38 : decode prog_1_method_17_code 38 = .ok (.i2l, 1) := F_CM_tell_6.2.2.2.2.2.2.2.2.2.2.2.2.2.2.2.2.2.2.1
theorem d_CM_tell_39 : decode prog_1_method_17_code 39 = .ok (.iload_n 3, 1) := F_CM_tell_6.2.2.2.2.2.2.2.2.2.2.2.2.2.2.2.2.2.2.2.1
theorem d_CM_tell_40 : decode prog_1_method_17_code 40 = .ok (.i2l, 1) := F_CM_tell_6.2.2.2.2.2.2.2.2.2.2.2.2.2.2.2.2.2.2.2.2.1
theorem d_CM_tell_41 : decode prog_1_method_17_code 41 = .ok (.aload_n 0, 1) := F_CM_tell_6.2.2.2.2.2.2.2.2.2.2.2.2.2.2.2.2.2.2.2.2.2.1
theorem d_CM_tell_42 : decode prog_1_method_17_code 42 = .ok (.getfield 75, 3) := F_CM_tell_6.2.2.2.2.2.2.2.2.2.2.2.2.2.2.2.2.2.2.2.2.2.2.1
theorem d_CM_tell_45 : decode prog_1_method_17_code 45 = .ok (.invokestatic 238, 3) := F_CM_tell_6.2.2.2.2.2.2.2.2.2.2.2.2.2.2.2.2.2.2.2.2.2.2.2.1
theorem d_CM_tell_48 : decode prog_1_method_17_code 48 = .ok (.aload_n 0, 1) := F_CM_tell_6.2.2.2.2.2.2.2.2.2.2.2.2.2.2.2.2.2.2.2.2.2.2.2.2.1
theorem d_CM_tell_49 : decode prog_1_method_17_code 49 = .ok (.getfield 12, 3) := F_CM_tell_6.2.2.2.2.2.2.2.2.2.2.2.2.2.2.2.2.2.2.2.2.2.2.2.2.2.1
theorem d_CM_tell_52 : decode prog_1_method_17_code 52 = .ok (.aload_n 0, 1) := F_CM_tell_6.2.2.2.2.2.2.2.2.2.2.2.2.2.2.2.2.2.2.2.2.2.2.2.2.2.2.1
theorem d_CM_tell_53 : decode prog_1_method_17_code 53 = .ok (.getfield 75, 3) := F_CM_tell_6.2.2.2.2.2.2.2.2.2.2.2.2.2.2.2.2.2.2.2.2.2.2.2.2.2.2.2.1
theorem d_CM_tell_56 : decode prog_1_method_17_code 56 = .ok (.invokevirtual 241, 3) := F_CM_tell_6.2.2.2.2.2.2.2.2.2.2.2.2.2.2.2.2.2.2.2.2.2.2.2.2.2.2.2.2.1
theorem d_CM_tell_59 : decode prog_1_method_17_code 59 = .ok (.aload_n 0, 1) := F_CM_tell_6.2.2.2.2.2.2.2.2.2.2.2.2.2.2.2.2.2.2.2.2.2.2.2.2.2.2.2.2.2.1
theorem d_CM_tell_60 : decode prog_1_method_17_code 60 = .ok (.getfield 47, 3) := F_CM_tell_6.2.2.2.2.2.2.2.2.2.2.2.2.2.2.2.2.2.2.2.2.2.2.2.2.2.2.2.2.2.2.1
theorem d_CM_tell_63 : decode prog_1_method_17_code 63 = .ok (.invokevirtual 245, 3) := F_CM_tell_6.2.2.2.2.2.2.2.2.2.2.2.2.2.2.2.2.2.2.2.2.2.2.2.2.2.2.2.2.2.2.2.1
theorem F_CM_tell_66 : Jvm.Free.DS.Facts prog_1_method_17_code 66 [(.aload_n 0, 1), (.getfield 12, 3), (.getfield 232, 3), (.iconst 1, 1), (.isub, 1), (.ireturn, 1)] := Jvm.Free.DS.facts 66 _ (by decide +kernel) (by decide +kernel)
theorem d_CM_tell_66 : decode prog_1_method_17_code 66 = .ok (.aload_n 0, 1) := F_CM_tell_66.1
theorem d_CM_tell_67 : decode prog_1_method_17_code 67 = .ok (.getfield 12, 3) := F_CM_tell_66.2.1
theorem d_CM_tell_70 : decode prog_1_method_17_code 70 = .ok (.getfield 232, 3) := F_CM_tell_66.2.2.1
theorem d_CM_tell_73 : decode prog_1_method_17_code 73 = .ok (.iconst 1, 1) := F_CM_tell_66.2.2.2.1
theorem d_CM_tell_74 : decode prog_1_method_17_code 74 = .ok (.isub, 1) := F_CM_tell_66.2.2.2.2.1
theorem d_CM_tell_75 : decode prog_1_method_17_code 75 = .ok (.ireturn, 1) := F_CM_tell_66.2.2.2.2.2.1
theorem F_MD_common_0 : Jvm.Free.DS.Facts prog_12_method_23_code 0 [(.lload_n 0, 1), (.invokestatic 210, 3), (.lstore 4, 2), (.lload_n 2, 1), (.invokestatic 210, 3), (.lstore 6, 2), (.lload 6, 2), (.lconst 0, 1), (.lcmp, 1), (.ifCond .eq (21), 3), (.lload 4, 2), (.lload 6, 2), (.lrem, 1), (.lstore 8, 2), (.lload 6, 2), (.lstore 4, 2), (.lload 8, 2), (.lstore 6, 2), (.goto (-22), 3), (.lload 4, 2), (.lreturn, 1)] := Jvm.Free.DS.facts 0 _ (by decide +kernel) (by decide +kernel)
theorem d_MD_common_0 : decode prog_12_method_23_code 0 = .ok (.lload_n 0, 1) := F_MD_common_0.1
theorem d_MD_common_1 : decode prog_12_method_23_code 1 = .ok (.invokestatic 210, 3) := F_MD_common_0.2.1
theorem d_MD_common_4 : decode prog_12_method_23_code 4 = .ok (.lstore 4, 2) := F_MD_common_0.2.2.1
theorem d_MD_common_6 : decode prog_12_method_23_code 6 = .ok (.lload_n 2, 1) := F_MD_common_0.2.2.2.1
theorem d_MD_common_7 : decode prog_12_method_23_code 7 = .ok (.invokestatic 210, 3) := F_MD_common_0.2.2.2.2.1
theorem d_MD_common_10 : decode prog_12_method_23_code 10 = .ok (.lstore 6, 2) := F_MD_common_0.2.2.2.2.2.1
theorem d_MD_common_12 : decode prog_12_method_23_code 12 = .ok (.lload 6, 2) := F_MD_common_0.2.2.2.2.2.2.1
theorem d_MD_common_14 : decode prog_12_method_23_code 14 = .ok (.lconst 0, 1) := F_MD_common_0.2.2.2.2.2.2.2.1
theorem d_MD_common_15 : decode prog_12_method_23_code 15 = .ok (.lcmp, 1) := F_MD_common_0.2.2.2.2.2.2.2.2.1
theorem d_MD_common_16 : decode prog_12_method_23_code 16 = .ok (.ifCond .eq (21), 3) := F_MD_common_0.2.2.2.2.2.2.2.2.2.1
theorem d_MD_common_19 : decode prog_12_method_23_code 19 = .ok (.lload 4, 2) := F_MD_common_0.2.2.2.2.2.2.2.2.2.2.1
theorem d_MD_common_21 : decode prog_12_method_23_code 21 = .ok (.lload 6, 2) := F_MD_common_0.2.2.2.2.2.2.2.2.2.2.2.1
theorem d_MD_common_23 : decode prog_12_method_23_code 23 = .ok (.lrem, 1) := F_MD_common_0.2.2.2.2.2.2.2.2.2.2.2.2.1
theorem d_MD_common_24 : decode prog_12_method_23_code 24 = .ok (.lstore 8, 2) := F_MD_common_0.2.2.2.2.2.2.2.2.2.2.2.2.2.1
theorem d_MD_common_26 : decode prog_12_method_23_code 26 = .ok (.lload 6, 2) := F_MD_common_0.2.2.2.2.2.2.2.2.2.2.2.2.2.2.1
theorem d_MD_common_28 : decode prog_12_method_23_code 28 = .ok (.lstore 4, 2) := F_MD_common_0.2.2.2.2.2.2.2.2.2.2.2.2.2.2.2.1
theorem d_MD_common_30 : decode prog_12_method_23_code 30 = .ok (.lload 8, 2) := F_MD_common_0.2.2.2.2.2.2.2.2.2.2.2.2.2.2.2.2.1
theorem d_MD_common_32 : decode prog_12_method_23_code 32 = .ok (.lstore 6, 2) := F_MD_common_0.2.2.2.2.2.2.2.2.2.2.2.2.2.2.2.2.2.1
theorem d_MD_common_34 : decode prog_12_method_23_code 34 = .ok (.goto (-22), 3) := F_MD_common_0.2.2.2.2.2.2.2.2.2.2.2.2.2.2.2.2.2.2.1
theorem d_MD_common_37 : decode prog_12_method_23_code 37 = .ok (.lload 4, 2) := F_MD_common_0.2.2.2.2.2.2.2.2.2.2.2.2.2.2.2.2.2.2.2.1
theorem d_MD_common_39 : decode prog_12_method_23_code 39 = .ok (.lreturn, 1) := F_MD_common_0.2.2.2.2.2.2.2.2.2.2.2.2.2.2.2.2.2.2.2.2.1
theorem F_MD_reduces_0 : Jvm.Free.DS.Facts prog_12_method_24_code 0 [(.lconst 0, 1), (.lstore_n 1, 1), (.lconst 0, 1), (.lstore_n 3, 1), (.iconst 0, 1), (.istore 5, 2), (.iload 5, 2), (.aload_n 0, 1), (.arraylength, 1), (.if_icmp .ge (36), 3), (.lload_n 1, 1), (.aload_n 0, 1), (.iload 5, 2), (.laload, 1), (.invokestatic 216, 3), (.lstore_n 1, 1), (.aload_n 0, 1), (.iload 5, 2), (.laload, 1), (.lconst 0, 1), (.lcmp, 1), (.ifCond .eq (10), 3), (.aload_n 0, 1), (.iload 5, 2), (.laload, 1), (.goto (4), 3), (.lload_n 3, 1), (.lstore_n 3, 1), (.iinc 5 (1), 3), (.goto (-37), 3), (.lload_n 1, 1), (.lconst 0, 1)] := Jvm.Free.DS.facts 0 _ (by decide +kernel) (by decide +kernel)
theorem d_MD_reduces_0 : decode prog_12_method_24_code 0 = .ok (.lconst 0, 1) := F_MD_reduces_0.1
theorem d_MD_reduces_1 : decode prog_12_method_24_code 1 = .ok (.lstore_n 1, 1) := F_MD_reduces_0.2.1
theorem d_MD_reduces_2 : decode prog_12_method_24_code 2 = .ok (.lconst 0, 1) := F_MD_reduces_0.2.2.1
theorem d_MD_reduces_3 : decode prog_12_method_24_code 3 = .ok (.lstore_n 3, 1) := F_MD_reduces_0.2.2.2.1
theorem d_MD_reduces_4 : decode prog_12_method_24_code 4 = .ok (.iconst 0, 1) := F_MD_reduces_0.2.2.2.2.1
theorem d_MD_reduces_5 : decode prog_12_method_24_code 5 = .ok (.istore 5, 2) := F_MD_reduces_0.2.2.2.2.2.1
theorem d_MD_reduces_7 : decode prog_12_method_24_code 7 = .ok (.iload 5, 2) := F_MD_reduces_0.2.2.2.2.2.2.1
theorem d_MD_reduces_9 : decode prog_12_method_24_code 9 = .ok (.aload_n 0, 1) := F_MD_reduces_0.2.2.2.2.2.2.2.1
theorem d_MD_reduces_10 : decode prog_12_method_24_code 10 = .ok (.arraylength, 1) := F_MD_reduces_0.2.2.2.2.2.2.2.2.1
theorem d_MD_reduces_11 : decode prog_12_method_24_code 11 = .ok (.if_icmp .ge (36), 3) := F_MD_reduces_0.2.2.2.2.2.2.2.2.2.1
theorem d_MD_reduces_14 : decode prog_12_method_24_code 14 = .ok (.lload_n 1, 1) := F_MD_reduces_0.2.2.2.2.2.2.2.2.2.2.1
theorem d_MD_reduces_15 : decode prog_12_method_24_code 15 = .ok (.aload_n 0, 1) := F_MD_reduces_0.2.2.2.2.2.2.2.2.2.2.2.1
theorem d_MD_reduces_16 : decode prog_12_method_24_code 16 = .ok (.iload 5, 2) := F_MD_reduces_0.2.2.2.2.2.2.2.2.2.2.2.2.1
theorem d_MD_reduces_18 : decode prog_12_method_24_code 18 = .ok (.laload, 1) := F_MD_reduces_0.2.2.2.2.2.2.2.2.2.2.2.2.2.1
theorem d_MD_reduces_19 : decode prog_12_method_24_code 19 = .ok (.invokestatic 216, 3) := F_MD_reduces_0.2.2.2.2.2.2.2.2.2.2.2.2.2.2.1
theorem d_MD_reduces_22 : decode prog_12_method_24_code 22 = .ok (.lstore_n 1, 1) := F_MD_reduces_0.2.2.2.2.2.2.2.2.2.2.2.2.2.2.2.1
theorem d_MD_reduces_23 : decode prog_12_method_24_code 23 = .ok (.aload_n 0, 1) := F_MD_reduces_0.2.2.2.2.2.2.2.2.2.2.2.2.2.2.2.2.1
theorem d_MD_reduces_24 : decode prog_12_method_24_code 24 = .ok (.iload 5, 2) := F_MD_reduces_0.2.2.2.2.2.2.2.2.2.2.2.2.2.2.2.2.2.1
theorem d_MD_reduces_26 : decode prog_12_method_24_code 26 = .ok (.laload, 1) := F_MD_reduces_0.2.2.2.2.2.2.2.2.2.2.2.2.2.2.2.2.2.2.1
theorem d_MD_reduces_27 : decode prog_12_method_24_code 27 = .ok (.lconst 0, 1) := F_MD_reduces_0.2.2.2.2.2.2.2.2.2.2.2.2.2.2.2.2.2.2.2.1
theorem d_MD_reduces_28 : decode prog_12_method_24_code 28 = .ok (.lcmp, 1) := F_MD_reduces_0.2.2.2.2.2.2.2.2.2.2.2.2.2.2.2.2.2.2.2.2.1
theorem d_MD_reduces_29 : decode prog_12_method_24_code 29 = .ok (.ifCond .eq (10), 3) := F_MD_reduces_0.2.2.2.2.2.2.2.2.2.2.2.2.2.2.2.2.2.2.2.2.2.1
theorem d_MD_reduces_32 : decode prog_12_method_24_code 32 = .ok (.aload_n 0, 1) := F_MD_reduces_0.2.2.2.2.2.2.2.2.2.2.2.2.2.2.2.2.2.2.2.2.2.2.1
theorem d_MD_reduces_33 : decode prog_12_method_24_code 33 = .ok (.iload 5, 2) := F_MD_reduces_0.2.2.2.2.2.2.2.2.2.2.2.2.2.2.2.2.2.2.2.2.2.2.2.1
theorem d_MD_reduces_35 : decode prog_12_method_24_code 35 = .ok (.laload, 1) := F_MD_reduces_0.2.2.2.2.2.2.2.2.2.2.2.2.2.2.2.2.2.2.2.2.2.2.2.2.1
theorem d_MD_reduces_36 : decode prog_12_method_24_code 36 = .ok (.goto (4), 3) := F_MD_reduces_0.2.2.2.2.2.2.2.2.2.2.2.2.2.2.2.2.2.2.2.2.2.2.2.2.2.1
theorem d_MD_reduces_39 : decode prog_12_method_24_code 39 = .ok (.lload_n 3, 1) := F_MD_reduces_0.2.2.2.2.2.2.2.2.2.2.2.2.2.2.2.2.2.2.2.2.2.2.2.2.2.2.1
theorem d_MD_reduces_40 : decode prog_12_method_24_code 40 = .ok (.lstore_n 3, 1) := F_MD_reduces_0.2.2.2.2.2.2.2.2.2.2.2.2.2.2.2.2.2.2.2.2.2.2.2.2.2.2.2.1
theorem d_MD_reduces_41 : decode prog_12_method_24_code 41 = .ok (.iinc 5 (1), 3) := F_MD_reduces_0.2.2.2.2.2.2.2.2.2.2.2.2.2.2.2.2.2.2.2.2.2.2.2.2.2.2.2.2.1
theorem d_MD_reduces_44 : decode prog_12_method_24_code 44 = .ok (.goto (-37), 3) := F_MD_reduces_0.2.2.2.2.2.2.2.2.2.2.2.2.2.2.2.2.2.2.2.2.2.2.2.2.2.2.2.2.2.1
theorem d_MD_reduces_47 : decode prog_12_method_24_code 47 = .ok (.lload_n 1, 1) := F_MD_reduces_0.2.2.2.2.2.2.2.2.2.2.2.2.2.2.2.2.2.2.2.2.2.2.2.2.2.2.2.2.2.2.1
theorem d_MD_reduces_48 : decode prog_12_method_24_code 48 = .ok (.lconst 0, 1) := F_MD_reduces_0.2.2.2.2.2.2.2.2.2.2.2.2.2.2.2.2.2.2.2.2.2.2.2.2.2.2.2.2.2.2.2.1
theorem F_MD_reduces_49 : Jvm.Free.DS.Facts prog_12_method_24_code 49 [(.lcmp, 1), (.ifCond .ne (4), 3), (.return_, 1), (.lload_n 3, 1), (.lconst 0, 1), (.lcmp, 1), (.ifCond .ge (8), 3), (.lload_n 1, 1), (.lneg, 1), (.goto (4), 3), (.lload_n 1, 1), (.lstore_n 1, 1), (.iconst 0, 1), (.istore 5, 2), (.iload 5, 2), (.aload_n 0, 1), (.arraylength, 1), (.if_icmp .ge (17), 3), (.aload_n 0, 1), (.iload 5, 2), (.dup2, 1), (.laload, 1), (.lload_n 1, 1), (.ldiv, 1), (.lastore, 1), (.iinc 5 (1), 3), (.goto (-18), 3), (.return_, 1)] := Jvm.Free.DS.facts 49 _ (by decide +kernel) (by decide +kernel)
theorem d_MD_reduces_49 : decode prog_12_method_24_code 49 = .ok (.lcmp, 1) := F_MD_reduces_49.1
theorem d_MD_reduces_50 : decode prog_12_method_24_code 50 = .ok (.ifCond .ne (4), 3) := F_MD_reduces_49.2.1
theorem d_MD_reduces_53 : decode prog_12_method_24_code 53 = .ok (.return_, 1) := F_MD_reduces_49.2.2.1
theorem d_MD_reduces_54 : decode prog_12_method_24_code 54 = .ok (.lload_n 3, 1) := F_MD_reduces_49.2.2.2.1
theorem d_MD_reduces_55 : decode prog_12_method_24_code 55 = .ok (.lconst 0, 1) := F_MD_reduces_49.2.2.2.2.1
theorem d_MD_reduces_56 : decode prog_12_method_24_code 56 = .ok (.lcmp, 1) := F_MD_reduces_49.2.2.2.2.2.1
theorem d_MD_reduces_57 : decode prog_12_method_24_code 57 = .ok (.ifCond .ge (8), 3) := F_MD_reduces_49.2.2.2.2.2.2.1
theorem d_MD_reduces_60 : decode prog_12_method_24_code 60 = .ok (.lload_n 1, 1) := F_MD_reduces_49.2.2.2.2.2.2.2.1
theorem d_MD_reduces_61 : decode prog_12_method_24_code 61 = .ok (.lneg, 1) := F_MD_reduces_49.2.2.2.2.2.2.2.2.1
theorem d_MD_reduces_62 : decode prog_12_method_24_code 62 = .ok (.goto (4), 3) := F_MD_reduces_49.2.2.2.2.2.2.2.2.2.1
theorem d_MD_reduces_65 : decode prog_12_method_24_code 65 = .ok (.lload_n 1, 1) := F_MD_reduces_49.2.2.2.2.2.2.2.2.2.2.1
theorem d_MD_reduces_66 : decode prog_12_method_24_code 66 = .ok (.lstore_n 1, 1) := F_MD_reduces_49.2.2.2.2.2.2.2.2.2.2.2.1
theorem d_MD_reduces_67 : decode prog_12_method_24_code 67 = .ok (.iconst 0, 1) := F_MD_reduces_49.2.2.2.2.2.2.2.2.2.2.2.2.1
theorem d_MD_reduces_68 : decode prog_12_method_24_code 68 = .ok (.istore 5, 2) := F_MD_reduces_49.2.2.2.2.2.2.2.2.2.2.2.2.2.1
theorem d_MD_reduces_70 : decode prog_12_method_24_code 70 = .ok (.iload 5, 2) := F_MD_reduces_49.2.2.2.2.2.2.2.2.2.2.2.2.2.2.1
theorem d_MD_reduces_72 : decode prog_12_method_24_code 72 = .ok (.aload_n 0, 1) := F_MD_reduces_49.2.2.2.2.2.2.2.2.2.2.2.2.2.2.2.1
theorem d_MD_reduces_73 : decode prog_12_method_24_code 73 = .ok (.arraylength, 1) := F_MD_reduces_49.2.2.2.2.2.2.2.2.2.2.2.2.2.2.2.2.1
theorem d_MD_reduces_74 : decode prog_12_method_24_code 74 = .ok (.if_icmp .ge (17), 3) := F_MD_reduces_49.2.2.2.2.2.2.2.2.2.2.2.2.2.2.2.2.2.1
theorem d_MD_reduces_77 : decode prog_12_method_24_code 77 = .ok (.aload_n 0, 1) := F_MD_reduces_49.2.2.2.2.2.2.2.2.2.2.2.2.2.2.2.2.2.2.1
theorem d_MD_reduces_78 : decode prog_12_method_24_code 78 = .ok (.iload 5, 2) := F_MD_reduces_49.2.2.2.2.2.2.2.2.2.2.2.2.2.2.2.2.2.2.2.1
theorem d_MD_reduces_80 : decode prog_12_method_24_code 80 = .ok (.dup2, 1) := F_MD_reduces_49.2.2.2.2.2.2.2.2.2.2.2.2.2.2.2.2.2.2.2.2.1
theorem d_MD_reduces_81 : decode prog_12_method_24_code 81 = .ok (.laload, 1) := F_MD_reduces_49.2.2.2.2.2.2.2.2.2.2.2.2.2.2.2.2.2.2.2.2.2.1
theorem d_MD_reduces_82 : decode prog_12_method_24_code 82 = .ok (.lload_n 1, 1) := F_MD_reduces_49.2.2.2.2.2.2.2.2.2.2.2.2.2.2.2.2.2.2.2.2.2.2.1
theorem d_MD_reduces_83 : decode prog_12_method_24_code 83 = .ok (.ldiv, 1) := F_MD_reduces_49.2.2.2.2.2.2.2.2.2.2.2.2.2.2.2.2.2.2.2.2.2.2.2.1
theorem d_MD_reduces_84 : decode prog_12_method_24_code 84 = .ok (.lastore, 1) := F_MD_reduces_49.2.2.2.2.2.2.2.2.2.2.2.2.2.2.2.2.2.2.2.2.2.2.2.2.1
theorem d_MD_reduces_85 : decode prog_12_method_24_code 85 = .ok (.iinc 5 (1), 3) := F_MD_reduces_49.2.2.2.2.2.2.2.2.2.2.2.2.2.2.2.2.2.2.2.2.2.2.2.2.2.1
theorem d_MD_reduces_88 : decode prog_12_method_24_code 88 = .ok (.goto (-18), 3) := F_MD_reduces_49.2.2.2.2.2.2.2.2.2.2.2.2.2.2.2.2.2.2.2.2.2.2.2.2.2.2.1
theorem d_MD_reduces_91 : decode prog_12_method_24_code 91 = .ok (.return_, 1) := F_MD_reduces_49.2.2.2.2.2.2.2.2.2.2.2.2.2.2.2.2.2.2.2.2.2.2.2.2.2.2.2.1
theorem F_MD_keeps_0 : Jvm.Free.DS.Facts prog_12_method_51_code 0 [(.aload_n 0, 1), (.getfield 71, 3), (.bipush (16), 2), (.if_icmp .ne (48), 3)] := Jvm.Free.DS.facts 0 _ (by decide +kernel) (by decide +kernel)
theorem d_MD_keeps_0 : decode prog_12_method_51_code 0 = .ok (.aload_n 0, 1) := F_MD_keeps_0.1
theorem d_MD_keeps_1 : decode prog_12_method_51_code 1 = .ok (.getfield 71, 3) := F_MD_keeps_0.2.1
theorem d_MD_keeps_4 : decode prog_12_method_51_code 4 = .ok (.bipush (16), 2) := F_MD_keeps_0.2.2.1
theorem d_MD_keeps_6 : decode prog_12_method_51_code 6 = .ok (.if_icmp .ne (48), 3) := F_MD_keeps_0.2.2.2.1
theorem F_MD_keeps_54 : Jvm.Free.DS.Facts prog_12_method_51_code 54 [(.iconst 0, 1), (.istore_n 1, 1), (.iload_n 1, 1), (.sipush (170), 3), (.if_icmp .ge (30), 3), (.aload_n 0, 1), (.getfield 28, 3), (.sipush (170), 3), (.aload_n 0, 1), (.getfield 71, 3), (.imul, 1), (.iload_n 1, 1), (.iadd, 1), (.aload_n 0, 1), (.getfield 21, 3), (.iload_n 1, 1), (.laload, 1), (.lastore, 1), (.iinc 1 (1), 3), (.goto (-31), 3), (.aload_n 0, 1), (.dup, 1), (.getfield 71, 3), (.iconst 1, 1), (.iadd, 1), (.putfield 71, 3), (.return_, 1)] := Jvm.Free.DS.facts 54 _ (by decide +kernel) (by decide +kernel)
theorem d_MD_keeps_54 : decode prog_12_method_51_code 54 = .ok (.iconst 0, 1) := F_MD_keeps_54.1
theorem d_MD_keeps_55 : decode prog_12_method_51_code 55 = .ok (.istore_n 1, 1) := F_MD_keeps_54.2.1
theorem d_MD_keeps_56 : decode prog_12_method_51_code 56 = .ok (.iload_n 1, 1) := F_MD_keeps_54.2.2.1
theorem d_MD_keeps_57 : decode prog_12_method_51_code 57 = .ok (.sipush (170), 3) := F_MD_keeps_54.2.2.2.1
theorem d_MD_keeps_60 : decode prog_12_method_51_code 60 = .ok (.if_icmp .ge (30), 3) := F_MD_keeps_54.2.2.2.2.1
theorem d_MD_keeps_63 : decode prog_12_method_51_code 63 = .ok (.aload_n 0, 1) := F_MD_keeps_54.2.2.2.2.2.1
theorem d_MD_keeps_64 : decode prog_12_method_51_code 64 = .ok (.getfield 28, 3) := F_MD_keeps_54.2.2.2.2.2.2.1
theorem d_MD_keeps_67 : decode prog_12_method_51_code 67 = .ok (.sipush (170), 3) := F_MD_keeps_54.2.2.2.2.2.2.2.1
theorem d_MD_keeps_70 : decode prog_12_method_51_code 70 = .ok (.aload_n 0, 1) := F_MD_keeps_54.2.2.2.2.2.2.2.2.1
theorem d_MD_keeps_71 : decode prog_12_method_51_code 71 = .ok (.getfield 71, 3) := F_MD_keeps_54.2.2.2.2.2.2.2.2.2.1
theorem d_MD_keeps_74 : decode prog_12_method_51_code 74 = .ok (.imul, 1) := F_MD_keeps_54.2.2.2.2.2.2.2.2.2.2.1
theorem d_MD_keeps_75 : decode prog_12_method_51_code 75 = .ok (.iload_n 1, 1) := F_MD_keeps_54.2.2.2.2.2.2.2.2.2.2.2.1
theorem d_MD_keeps_76 : decode prog_12_method_51_code 76 = .ok (.iadd, 1) := F_MD_keeps_54.2.2.2.2.2.2.2.2.2.2.2.2.1
theorem d_MD_keeps_77 : decode prog_12_method_51_code 77 = .ok (.aload_n 0, 1) := F_MD_keeps_54.2.2.2.2.2.2.2.2.2.2.2.2.2.1
theorem d_MD_keeps_78 : decode prog_12_method_51_code 78 = .ok (.getfield 21, 3) := F_MD_keeps_54.2.2.2.2.2.2.2.2.2.2.2.2.2.2.1
theorem d_MD_keeps_81 : decode prog_12_method_51_code 81 = .ok (.iload_n 1, 1) := F_MD_keeps_54.2.2.2.2.2.2.2.2.2.2.2.2.2.2.2.1
theorem d_MD_keeps_82 : decode prog_12_method_51_code 82 = .ok (.laload, 1) := F_MD_keeps_54.2.2.2.2.2.2.2.2.2.2.2.2.2.2.2.2.1
theorem d_MD_keeps_83 : decode prog_12_method_51_code 83 = .ok (.lastore, 1) := F_MD_keeps_54.2.2.2.2.2.2.2.2.2.2.2.2.2.2.2.2.2.1
theorem d_MD_keeps_84 : decode prog_12_method_51_code 84 = .ok (.iinc 1 (1), 3) := F_MD_keeps_54.2.2.2.2.2.2.2.2.2.2.2.2.2.2.2.2.2.2.1
theorem d_MD_keeps_87 : decode prog_12_method_51_code 87 = .ok (.goto (-31), 3) := F_MD_keeps_54.2.2.2.2.2.2.2.2.2.2.2.2.2.2.2.2.2.2.2.1
theorem d_MD_keeps_90 : decode prog_12_method_51_code 90 = .ok (.aload_n 0, 1) := F_MD_keeps_54.2.2.2.2.2.2.2.2.2.2.2.2.2.2.2.2.2.2.2.2.1
theorem d_MD_keeps_91 : decode prog_12_method_51_code 91 = .ok (.dup, 1) := F_MD_keeps_54.2.2.2.2.2.2.2.2.2.2.2.2.2.2.2.2.2.2.2.2.2.1
theorem d_MD_keeps_92 : decode prog_12_method_51_code 92 = .ok (.getfield 71, 3) := F_MD_keeps_54.2.2.2.2.2.2.2.2.2.2.2.2.2.2.2.2.2.2.2.2.2.2.1
theorem d_MD_keeps_95 : decode prog_12_method_51_code 95 = .ok (.iconst 1, 1) := F_MD_keeps_54.2.2.2.2.2.2.2.2.2.2.2.2.2.2.2.2.2.2.2.2.2.2.2.1
theorem d_MD_keeps_96 : decode prog_12_method_51_code 96 = .ok (.iadd, 1) := F_MD_keeps_54.2.2.2.2.2.2.2.2.2.2.2.2.2.2.2.2.2.2.2.2.2.2.2.2.1
theorem d_MD_keeps_97 : decode prog_12_method_51_code 97 = .ok (.putfield 71, 3) := F_MD_keeps_54.2.2.2.2.2.2.2.2.2.2.2.2.2.2.2.2.2.2.2.2.2.2.2.2.2.1
theorem d_MD_keeps_100 : decode prog_12_method_51_code 100 = .ok (.return_, 1) := F_MD_keeps_54.2.2.2.2.2.2.2.2.2.2.2.2.2.2.2.2.2.2.2.2.2.2.2.2.2.2.1
theorem F_MD_laysThree_0 : Jvm.Free.DS.Facts prog_12_method_25_code 0 [(.aload_n 0, 1), (.getfield 50, 3), (.iconst 0, 1), (.lload_n 1, 1), (.lastore, 1), (.aload_n 0, 1), (.getfield 50, 3), (.iconst 1, 1), (.lload_n 3, 1), (.lastore, 1), (.aload_n 0, 1), (.getfield 50, 3), (.iconst 2, 1), (.lload 5, 2), (.lastore, 1), (.aload_n 0, 1), (.getfield 50, 3), (.invokestatic 220, 3), (.return_, 1)] := Jvm.Free.DS.facts 0 _ (by decide +kernel) (by decide +kernel)
theorem d_MD_laysThree_0 : decode prog_12_method_25_code 0 = .ok (.aload_n 0, 1) := F_MD_laysThree_0.1
theorem d_MD_laysThree_1 : decode prog_12_method_25_code 1 = .ok (.getfield 50, 3) := F_MD_laysThree_0.2.1
theorem d_MD_laysThree_4 : decode prog_12_method_25_code 4 = .ok (.iconst 0, 1) := F_MD_laysThree_0.2.2.1
theorem d_MD_laysThree_5 : decode prog_12_method_25_code 5 = .ok (.lload_n 1, 1) := F_MD_laysThree_0.2.2.2.1
theorem d_MD_laysThree_6 : decode prog_12_method_25_code 6 = .ok (.lastore, 1) := F_MD_laysThree_0.2.2.2.2.1
theorem d_MD_laysThree_7 : decode prog_12_method_25_code 7 = .ok (.aload_n 0, 1) := F_MD_laysThree_0.2.2.2.2.2.1
theorem d_MD_laysThree_8 : decode prog_12_method_25_code 8 = .ok (.getfield 50, 3) := F_MD_laysThree_0.2.2.2.2.2.2.1
theorem d_MD_laysThree_11 : decode prog_12_method_25_code 11 = .ok (.iconst 1, 1) := F_MD_laysThree_0.2.2.2.2.2.2.2.1
theorem d_MD_laysThree_12 : decode prog_12_method_25_code 12 = .ok (.lload_n 3, 1) := F_MD_laysThree_0.2.2.2.2.2.2.2.2.1
theorem d_MD_laysThree_13 : decode prog_12_method_25_code 13 = .ok (.lastore, 1) := F_MD_laysThree_0.2.2.2.2.2.2.2.2.2.1
theorem d_MD_laysThree_14 : decode prog_12_method_25_code 14 = .ok (.aload_n 0, 1) := F_MD_laysThree_0.2.2.2.2.2.2.2.2.2.2.1
theorem d_MD_laysThree_15 : decode prog_12_method_25_code 15 = .ok (.getfield 50, 3) := F_MD_laysThree_0.2.2.2.2.2.2.2.2.2.2.2.1
theorem d_MD_laysThree_18 : decode prog_12_method_25_code 18 = .ok (.iconst 2, 1) := F_MD_laysThree_0.2.2.2.2.2.2.2.2.2.2.2.2.1
theorem d_MD_laysThree_19 : decode prog_12_method_25_code 19 = .ok (.lload 5, 2) := F_MD_laysThree_0.2.2.2.2.2.2.2.2.2.2.2.2.2.1
theorem d_MD_laysThree_21 : decode prog_12_method_25_code 21 = .ok (.lastore, 1) := F_MD_laysThree_0.2.2.2.2.2.2.2.2.2.2.2.2.2.2.1
theorem d_MD_laysThree_22 : decode prog_12_method_25_code 22 = .ok (.aload_n 0, 1) := F_MD_laysThree_0.2.2.2.2.2.2.2.2.2.2.2.2.2.2.2.1
theorem d_MD_laysThree_23 : decode prog_12_method_25_code 23 = .ok (.getfield 50, 3) := F_MD_laysThree_0.2.2.2.2.2.2.2.2.2.2.2.2.2.2.2.2.1
theorem d_MD_laysThree_26 : decode prog_12_method_25_code 26 = .ok (.invokestatic 220, 3) := F_MD_laysThree_0.2.2.2.2.2.2.2.2.2.2.2.2.2.2.2.2.2.1
theorem d_MD_laysThree_29 : decode prog_12_method_25_code 29 = .ok (.return_, 1) := F_MD_laysThree_0.2.2.2.2.2.2.2.2.2.2.2.2.2.2.2.2.2.2.1
theorem F_MD_putsPoint_0 : Jvm.Free.DS.Facts prog_12_method_28_code 0 [(.iconst 0, 1), (.istore_n 3, 1), (.iload_n 3, 1), (.iconst 3, 1), (.if_icmp .ge (26), 3), (.aload_n 1, 1), (.sipush (144), 3), (.iconst 3, 1), (.iload_n 2, 1), (.imul, 1), (.iadd, 1), (.iload_n 3, 1), (.iadd, 1), (.aload_n 0, 1), (.getfield 50, 3), (.iload_n 3, 1), (.laload, 1), (.lastore, 1), (.iinc 3 (1), 3), (.goto (-25), 3), (.return_, 1)] := Jvm.Free.DS.facts 0 _ (by decide +kernel) (by decide +kernel)
theorem d_MD_putsPoint_0 : decode prog_12_method_28_code 0 = .ok (.iconst 0, 1) := F_MD_putsPoint_0.1
theorem d_MD_putsPoint_1 : decode prog_12_method_28_code 1 = .ok (.istore_n 3, 1) := F_MD_putsPoint_0.2.1
theorem d_MD_putsPoint_2 : decode prog_12_method_28_code 2 = .ok (.iload_n 3, 1) := F_MD_putsPoint_0.2.2.1
theorem d_MD_putsPoint_3 : decode prog_12_method_28_code 3 = .ok (.iconst 3, 1) := F_MD_putsPoint_0.2.2.2.1
theorem d_MD_putsPoint_4 : decode prog_12_method_28_code 4 = .ok (.if_icmp .ge (26), 3) := F_MD_putsPoint_0.2.2.2.2.1
theorem d_MD_putsPoint_7 : decode prog_12_method_28_code 7 = .ok (.aload_n 1, 1) := F_MD_putsPoint_0.2.2.2.2.2.1
theorem d_MD_putsPoint_8 : decode prog_12_method_28_code 8 = .ok (.sipush (144), 3) := F_MD_putsPoint_0.2.2.2.2.2.2.1
theorem d_MD_putsPoint_11 : decode prog_12_method_28_code 11 = .ok (.iconst 3, 1) := F_MD_putsPoint_0.2.2.2.2.2.2.2.1
theorem d_MD_putsPoint_12 : decode prog_12_method_28_code 12 = .ok (.iload_n 2, 1) := F_MD_putsPoint_0.2.2.2.2.2.2.2.2.1
theorem d_MD_putsPoint_13 : decode prog_12_method_28_code 13 = .ok (.imul, 1) := F_MD_putsPoint_0.2.2.2.2.2.2.2.2.2.1
theorem d_MD_putsPoint_14 : decode prog_12_method_28_code 14 = .ok (.iadd, 1) := F_MD_putsPoint_0.2.2.2.2.2.2.2.2.2.2.1
theorem d_MD_putsPoint_15 : decode prog_12_method_28_code 15 = .ok (.iload_n 3, 1) := F_MD_putsPoint_0.2.2.2.2.2.2.2.2.2.2.2.1
theorem d_MD_putsPoint_16 : decode prog_12_method_28_code 16 = .ok (.iadd, 1) := F_MD_putsPoint_0.2.2.2.2.2.2.2.2.2.2.2.2.1
theorem d_MD_putsPoint_17 : decode prog_12_method_28_code 17 = .ok (.aload_n 0, 1) := F_MD_putsPoint_0.2.2.2.2.2.2.2.2.2.2.2.2.2.1
theorem d_MD_putsPoint_18 : decode prog_12_method_28_code 18 = .ok (.getfield 50, 3) := F_MD_putsPoint_0.2.2.2.2.2.2.2.2.2.2.2.2.2.2.1
theorem d_MD_putsPoint_21 : decode prog_12_method_28_code 21 = .ok (.iload_n 3, 1) := F_MD_putsPoint_0.2.2.2.2.2.2.2.2.2.2.2.2.2.2.2.1
theorem d_MD_putsPoint_22 : decode prog_12_method_28_code 22 = .ok (.laload, 1) := F_MD_putsPoint_0.2.2.2.2.2.2.2.2.2.2.2.2.2.2.2.2.1
theorem d_MD_putsPoint_23 : decode prog_12_method_28_code 23 = .ok (.lastore, 1) := F_MD_putsPoint_0.2.2.2.2.2.2.2.2.2.2.2.2.2.2.2.2.2.1
theorem d_MD_putsPoint_24 : decode prog_12_method_28_code 24 = .ok (.iinc 3 (1), 3) := F_MD_putsPoint_0.2.2.2.2.2.2.2.2.2.2.2.2.2.2.2.2.2.2.1
theorem d_MD_putsPoint_27 : decode prog_12_method_28_code 27 = .ok (.goto (-25), 3) := F_MD_putsPoint_0.2.2.2.2.2.2.2.2.2.2.2.2.2.2.2.2.2.2.2.1
theorem d_MD_putsPoint_30 : decode prog_12_method_28_code 30 = .ok (.return_, 1) := F_MD_putsPoint_0.2.2.2.2.2.2.2.2.2.2.2.2.2.2.2.2.2.2.2.2.1
theorem F_MD_tell_9 : Jvm.Free.DS.Facts prog_12_method_64_code 9 [(.ifCond .eq (17), 3), (.iload_n 2, 1), (.invokestatic 289, 3), (.ifCond .eq (10), 3), (.iload_n 3, 1), (.invokestatic 289, 3), (.ifCond .ne (5), 3), (.iconst (-1), 1), (.ireturn, 1), (.aload_n 0, 1), (.getfield 21, 3), (.sipush (169), 3), (.laload, 1), (.ldc2_w 292, 3), (.lcmp, 1), (.ifCond .eq (15), 3), (.iload_n 1, 1), (.ifCond .ne (14), 3), (.iload_n 2, 1), (.ifCond .ne (10), 3), (.iload_n 3, 1), (.ifCond .ne (6), 3), (.bipush (-2), 2), (.ireturn, 1), (.aload_n 0, 1), (.invokevirtual 268, 3), (.aload_n 0, 1), (.getfield 21, 3), (.sipush (169), 3), (.laload, 1), (.l2i, 1), (.istore 4, 2)] := Jvm.Free.DS.facts 9 _ (by decide +kernel) (by decide +kernel)
theorem d_MD_tell_9 : decode prog_12_method_64_code 9 = .ok (.ifCond .eq (17), 3) := F_MD_tell_9.1
theorem d_MD_tell_12 : decode prog_12_method_64_code 12 = .ok (.iload_n 2, 1) := F_MD_tell_9.2.1
theorem d_MD_tell_13 : decode prog_12_method_64_code 13 = .ok (.invokestatic 289, 3) := F_MD_tell_9.2.2.1
theorem d_MD_tell_16 : decode prog_12_method_64_code 16 = .ok (.ifCond .eq (10), 3) := F_MD_tell_9.2.2.2.1
theorem d_MD_tell_19 : decode prog_12_method_64_code 19 = .ok (.iload_n 3, 1) := F_MD_tell_9.2.2.2.2.1
theorem d_MD_tell_20 : decode prog_12_method_64_code 20 = .ok (.invokestatic 289, 3) := F_MD_tell_9.2.2.2.2.2.1
theorem d_MD_tell_23 : decode prog_12_method_64_code 23 = .ok (.ifCond .ne (5), 3) := F_MD_tell_9.2.2.2.2.2.2.1
theorem d_MD_tell_26 : decode prog_12_method_64_code 26 = .ok (.iconst (-1), 1) := F_MD_tell_9.2.2.2.2.2.2.2.1
theorem d_MD_tell_27 : decode prog_12_method_64_code 27 = .ok (.ireturn, 1) := F_MD_tell_9.2.2.2.2.2.2.2.2.1
theorem d_MD_tell_28 : decode prog_12_method_64_code 28 = .ok (.aload_n 0, 1) := F_MD_tell_9.2.2.2.2.2.2.2.2.2.1
theorem d_MD_tell_29 : decode prog_12_method_64_code 29 = .ok (.getfield 21, 3) := F_MD_tell_9.2.2.2.2.2.2.2.2.2.2.1
theorem d_MD_tell_32 : decode prog_12_method_64_code 32 = .ok (.sipush (169), 3) := F_MD_tell_9.2.2.2.2.2.2.2.2.2.2.2.1
theorem d_MD_tell_35 : decode prog_12_method_64_code 35 = .ok (.laload, 1) := F_MD_tell_9.2.2.2.2.2.2.2.2.2.2.2.2.1
theorem d_MD_tell_36 : decode prog_12_method_64_code 36 = .ok (.ldc2_w 292, 3) := F_MD_tell_9.2.2.2.2.2.2.2.2.2.2.2.2.2.1
theorem d_MD_tell_39 : decode prog_12_method_64_code 39 = .ok (.lcmp, 1) := F_MD_tell_9.2.2.2.2.2.2.2.2.2.2.2.2.2.2.1
theorem d_MD_tell_40 : decode prog_12_method_64_code 40 = .ok (.ifCond .eq (15), 3) := F_MD_tell_9.2.2.2.2.2.2.2.2.2.2.2.2.2.2.2.1
theorem d_MD_tell_43 : decode prog_12_method_64_code 43 = .ok (.iload_n 1, 1) := F_MD_tell_9.2.2.2.2.2.2.2.2.2.2.2.2.2.2.2.2.1
theorem d_MD_tell_44 : decode prog_12_method_64_code 44 = .ok (.ifCond .ne (14), 3) := F_MD_tell_9.2.2.2.2.2.2.2.2.2.2.2.2.2.2.2.2.2.1
theorem d_MD_tell_47 : decode prog_12_method_64_code 47 = .ok (.iload_n 2, 1) := F_MD_tell_9.2.2.2.2.2.2.2.2.2.2.2.2.2.2.2.2.2.2.1
theorem d_MD_tell_48 : decode prog_12_method_64_code 48 = .ok (.ifCond .ne (10), 3) := F_MD_tell_9.2.2.2.2.2.2.2.2.2.2.2.2.2.2.2.2.2.2.2.1
theorem d_MD_tell_51 : decode prog_12_method_64_code 51 = .ok (.iload_n 3, 1) := F_MD_tell_9.2.2.2.2.2.2.2.2.2.2.2.2.2.2.2.2.2.2.2.2.1
theorem d_MD_tell_52 : decode prog_12_method_64_code 52 = .ok (.ifCond .ne (6), 3) := F_MD_tell_9.2.2.2.2.2.2.2.2.2.2.2.2.2.2.2.2.2.2.2.2.2.1
theorem d_MD_tell_55 : decode prog_12_method_64_code 55 = .ok (.bipush (-2), 2) := F_MD_tell_9.2.2.2.2.2.2.2.2.2.2.2.2.2.2.2.2.2.2.2.2.2.2.1
theorem d_MD_tell_57 : decode prog_12_method_64_code 57 = .ok (.ireturn, 1) := F_MD_tell_9.2.2.2.2.2.2.2.2.2.2.2.2.2.2.2.2.2.2.2.2.2.2.2.1
theorem d_MD_tell_58 : decode prog_12_method_64_code 58 = .ok (.aload_n 0, 1) := F_MD_tell_9.2.2.2.2.2.2.2.2.2.2.2.2.2.2.2.2.2.2.2.2.2.2.2.2.1
theorem d_MD_tell_59 : decode prog_12_method_64_code 59 = .ok (.invokevirtual 268, 3) := F_MD_tell_9.2.2.2.2.2.2.2.2.2.2.2.2.2.2.2.2.2.2.2.2.2.2.2.2.2.1
theorem d_MD_tell_62 : decode prog_12_method_64_code 62 = .ok (.aload_n 0, 1) := F_MD_tell_9.2.2.2.2.2.2.2.2.2.2.2.2.2.2.2.2.2.2.2.2.2.2.2.2.2.2.1
theorem d_MD_tell_63 : decode prog_12_method_64_code 63 = .ok (.getfield 21, 3) := F_MD_tell_9.2.2.2.2.2.2.2.2.2.2.2.2.2.2.2.2.2.2.2.2.2.2.2.2.2.2.2.1
theorem d_MD_tell_66 : decode prog_12_method_64_code 66 = .ok (.sipush (169), 3) := F_MD_tell_9.2.2.2.2.2.2.2.2.2.2.2.2.2.2.2.2.2.2.2.2.2.2.2.2.2.2.2.2.1
theorem d_MD_tell_69 : decode prog_12_method_64_code 69 = .ok (.laload, 1) := F_MD_tell_9.2.2.2.2.2.2.2.2.2.2.2.2.2.2.2.2.2.2.2.2.2.2.2.2.2.2.2.2.2.1
theorem d_MD_tell_70 : decode prog_12_method_64_code 70 = .ok (.l2i, 1) := F_MD_tell_9.2.2.2.2.2.2.2.2.2.2.2.2.2.2.2.2.2.2.2.2.2.2.2.2.2.2.2.2.2.2.1
theorem d_MD_tell_71 : decode prog_12_method_64_code 71 = .ok (.istore 4, 2) := F_MD_tell_9.2.2.2.2.2.2.2.2.2.2.2.2.2.2.2.2.2.2.2.2.2.2.2.2.2.2.2.2.2.2.2.1
theorem F_MD_tell_73 : Jvm.Free.DS.Facts prog_12_method_64_code 73 [(.aload_n 0, 1), (.iload_n 1, 1), (.i2l, 1), (.iload_n 2, 1), (.i2l, 1), (.iload_n 3, 1), (.i2l, 1), (.invokevirtual 179, 3), (.aload_n 0, 1), (.aload_n 0, 1), (.getfield 21, 3), (.iload 4, 2), (.invokevirtual 183, 3), (.aload_n 0, 1), (.getfield 21, 3), (.sipush (169), 3), (.dup2, 1), (.laload, 1), (.lconst 1, 1), (.ladd, 1), (.lastore, 1), (.iload 4, 2), (.ireturn, 1)] := Jvm.Free.DS.facts 73 _ (by decide +kernel) (by decide +kernel)
theorem d_MD_tell_73 : decode prog_12_method_64_code 73 = .ok (.aload_n 0, 1) := F_MD_tell_73.1
theorem d_MD_tell_74 : decode prog_12_method_64_code 74 = .ok (.iload_n 1, 1) := F_MD_tell_73.2.1
theorem d_MD_tell_75 : decode prog_12_method_64_code 75 = .ok (.i2l, 1) := F_MD_tell_73.2.2.1
theorem d_MD_tell_76 : decode prog_12_method_64_code 76 = .ok (.iload_n 2, 1) := F_MD_tell_73.2.2.2.1
theorem d_MD_tell_77 : decode prog_12_method_64_code 77 = .ok (.i2l, 1) := F_MD_tell_73.2.2.2.2.1
theorem d_MD_tell_78 : decode prog_12_method_64_code 78 = .ok (.iload_n 3, 1) := F_MD_tell_73.2.2.2.2.2.1
theorem d_MD_tell_79 : decode prog_12_method_64_code 79 = .ok (.i2l, 1) := F_MD_tell_73.2.2.2.2.2.2.1
theorem d_MD_tell_80 : decode prog_12_method_64_code 80 = .ok (.invokevirtual 179, 3) := F_MD_tell_73.2.2.2.2.2.2.2.1
theorem d_MD_tell_83 : decode prog_12_method_64_code 83 = .ok (.aload_n 0, 1) := F_MD_tell_73.2.2.2.2.2.2.2.2.1
theorem d_MD_tell_84 : decode prog_12_method_64_code 84 = .ok (.aload_n 0, 1) := F_MD_tell_73.2.2.2.2.2.2.2.2.2.1
theorem d_MD_tell_85 : decode prog_12_method_64_code 85 = .ok (.getfield 21, 3) := F_MD_tell_73.2.2.2.2.2.2.2.2.2.2.1
theorem d_MD_tell_88 : decode prog_12_method_64_code 88 = .ok (.iload 4, 2) := F_MD_tell_73.2.2.2.2.2.2.2.2.2.2.2.1
theorem d_MD_tell_90 : decode prog_12_method_64_code 90 = .ok (.invokevirtual 183, 3) := F_MD_tell_73.2.2.2.2.2.2.2.2.2.2.2.2.1
theorem d_MD_tell_93 : decode prog_12_method_64_code 93 = .ok (.aload_n 0, 1) := F_MD_tell_73.2.2.2.2.2.2.2.2.2.2.2.2.2.1
theorem d_MD_tell_94 : decode prog_12_method_64_code 94 = .ok (.getfield 21, 3) := F_MD_tell_73.2.2.2.2.2.2.2.2.2.2.2.2.2.2.1
theorem d_MD_tell_97 : decode prog_12_method_64_code 97 = .ok (.sipush (169), 3) := F_MD_tell_73.2.2.2.2.2.2.2.2.2.2.2.2.2.2.2.1
theorem d_MD_tell_100 : decode prog_12_method_64_code 100 = .ok (.dup2, 1) := F_MD_tell_73.2.2.2.2.2.2.2.2.2.2.2.2.2.2.2.2.1
theorem d_MD_tell_101 : decode prog_12_method_64_code 101 = .ok (.laload, 1) := F_MD_tell_73.2.2.2.2.2.2.2.2.2.2.2.2.2.2.2.2.2.1
theorem d_MD_tell_102 : decode prog_12_method_64_code 102 = .ok (.lconst 1, 1) := F_MD_tell_73.2.2.2.2.2.2.2.2.2.2.2.2.2.2.2.2.2.2.1
theorem d_MD_tell_103 : decode prog_12_method_64_code 103 = .ok (.ladd, 1) := F_MD_tell_73.2.2.2.2.2.2.2.2.2.2.2.2.2.2.2.2.2.2.2.1
theorem d_MD_tell_104 : decode prog_12_method_64_code 104 = .ok (.lastore, 1) := F_MD_tell_73.2.2.2.2.2.2.2.2.2.2.2.2.2.2.2.2.2.2.2.2.1
theorem d_MD_tell_105 : decode prog_12_method_64_code 105 = .ok (.iload 4, 2) := F_MD_tell_73.2.2.2.2.2.2.2.2.2.2.2.2.2.2.2.2.2.2.2.2.2.1
theorem d_MD_tell_107 : decode prog_12_method_64_code 107 = .ok (.ireturn, 1) := F_MD_tell_73.2.2.2.2.2.2.2.2.2.2.2.2.2.2.2.2.2.2.2.2.2.2.1
theorem v_Rows_divisor {G : pG} {w : pW} (a b : Int64) : PM G M_Rows_divisor 1 0 0 [.long a, .long b] w (fun r w' => r = some (.long (euS 1000 (absL a) (absL b))) ∧ w' = w) := by
  refine PM_of pn_Rows_divisor (le_b rfl) ?_
  show PW _ _ _ _ _ _ (0, [(0, .long a), (2, .long b)], [], w)
  refine P_lload_n d_Rows_divisor_0 rfl ?_
  refine P_mabsl d_Rows_divisor_1 L_Rows_9 st_abs in_Math cd_abs ⟨by decide, by decide, by decide, by decide⟩ (by exact le_b rfl) ?_
  show PW _ _ _ _ _ _ (4, [(0, .long a), (2, .long b)], [.long (absL a)], w)
  refine P_lstore d_Rows_divisor_4 (by decide) rfl ?_
  refine P_lload_n d_Rows_divisor_6 rfl ?_
  refine P_mabsl d_Rows_divisor_7 L_Rows_9 st_abs in_Math cd_abs ⟨by decide, by decide, by decide, by decide⟩ (by exact le_b rfl) ?_
  show PW _ _ _ _ _ _ (10, [(0, .long a), (2, .long b), (4, .long (absL a))], [.long (absL b)], w)
  refine P_lstore d_Rows_divisor_10 (by decide) rfl ?_
  refine P_iconst (v := 0) d_Rows_divisor_12 (by decide) ?_
  refine P_istore d_Rows_divisor_13 (by decide) rfl ?_
  refine PW_ind (σ := Int64 × Int64) 1000 (fun j s => euS (1000 - j) s.1 s.2 = euS 1000 (absL a) (absL b)) (fun j s => (15, [(0, .long a), (2, .long b), (4, .long s.1), (6, .long s.2), (8, .int (nI j))], [], w)) ?_ ?_ 0 (absL a, absL b) (by omega) rfl
  · rintro ⟨x, y⟩ hv
    replace hv : euS (1000 - 1000) x y = euS 1000 (absL a) (absL b) := hv
    show PW _ _ _ _ _ _ (15, [(0, .long a), (2, .long b), (4, .long x), (6, .long y), (8, .int 1000)], [], w)
    refine P_iload d_Rows_divisor_15 rfl ?_
    refine P_sipush (v := 1000) d_Rows_divisor_17 (by decide) ?_
    refine P_icmp_ge 51 d_Rows_divisor_20 (by decide) (fun _ => ?_) (fun h => absurd (by decide) h)
    refine P_lload d_Rows_divisor_51 rfl ?_
    exact P_lret d_Rows_divisor_53 rfl (le_b rfl) (le_b rfl) ⟨by rw [show x = _ from hv], rfl⟩
  · rintro j ⟨x, y⟩ hj hv kk
    replace hv : euS (1000 - j) x y = euS 1000 (absL a) (absL b) := hv
    show PW _ _ _ _ _ _ (15, [(0, .long a), (2, .long b), (4, .long x), (6, .long y), (8, .int (nI j))], [], w)
    refine P_iload d_Rows_divisor_15 rfl ?_
    refine P_sipush (v := 1000) d_Rows_divisor_17 (by decide) ?_
    refine P_icmp_ge 51 d_Rows_divisor_20 (by decide) (fun h => absurd h (nI_ge hj (by decide))) (fun _ => ?_)
    refine P_lload d_Rows_divisor_23 rfl ?_
    refine P_lconst (v := 0) d_Rows_divisor_25 (by decide) ?_
    refine P_lcmp d_Rows_divisor_26 ?_
    refine P_if_eq 51 d_Rows_divisor_27 (by decide) (fun c1 => ?_) (fun c1 => ?_)
    · refine P_lload d_Rows_divisor_51 rfl ?_
      exact P_lret d_Rows_divisor_53 rfl (le_b rfl) (le_b rfl) ⟨by rw [← hv, cmp_eq c1, euS_z], rfl⟩
    · refine P_lload d_Rows_divisor_30 rfl ?_
      refine P_lload d_Rows_divisor_32 rfl ?_
      refine P_lrem d_Rows_divisor_34 (cmp_ne c1) ?_
      refine P_lstore d_Rows_divisor_35 (by decide) rfl ?_
      refine P_lload d_Rows_divisor_37 rfl ?_
      refine P_lstore d_Rows_divisor_39 (by decide) rfl ?_
      refine P_lload d_Rows_divisor_41 rfl ?_
      refine P_lstore d_Rows_divisor_43 (by decide) rfl ?_
      refine P_iinc (v := nI (j + 1)) d_Rows_divisor_45 (by decide) rfl (nI_succ j).symm rfl ?_
      refine P_goto 15 d_Rows_divisor_48 (by decide) ?_
      show PW _ _ _ _ _ _ (15, [(0, .long a), (2, .long b), (4, .long y), (6, .long (x - x / y * y)), (8, .int (nI (j + 1))), (9, .long (x - x / y * y))], [], w)
      refine PW.drop (lv' := [(0, .long a), (2, .long b), (4, .long y), (6, .long (x - x / y * y)), (8, .int (nI (j + 1)))]) (by simp) ?_
      exact kk (y, x - x / y * y) ((euS_s hj (cmp_ne c1)).symm.trans hv)
theorem v_Rows_lastPlace {G : pG} {w : pW} {r N : Nat} {f : Nat → Int64} (hr : w.2 r = .inl (1, N, .inr (.inl f))) (h0 : 0 < N) (hN : N < 1000000) : PM G M_Rows_lastPlace 0 0 0 [.ref r] w (fun r w' => r = some (.int (nI (lpF f (N - 1)))) ∧ w' = w) := by
  refine PM_of pn_Rows_lastPlace (le_b rfl) ?_
  show PW _ _ _ _ _ _ (0, [(0, .ref r)], [], w)
  refine P_aload_n d_Rows_lastPlace_0 rfl ?_
  refine P_alen (v := nI N) d_Rows_lastPlace_1 hr rfl ?_
  refine P_iconst (v := 1) d_Rows_lastPlace_2 (by decide) ?_
  refine P_isub d_Rows_lastPlace_3 ?_
  rw [show nI N - 1 = nI (N - 1) from by rw [← nI_pred (N - 1)]; congr 2; omega]
  refine P_istore_n d_Rows_lastPlace_4 (by decide) rfl ?_
  have L : ∀ i, i < N → lpF f i = lpF f (N - 1) → PW G M_Rows_lastPlace (rmD 0 0 0) (QM G (fun r w' => r = some (.int (nI (lpF f (N - 1)))) ∧ w' = w) 0 0) 0 0 (5, [(0, .ref r), (1, .int (nI i))], [], w) := by
    intro i
    induction i with
    | zero =>
      intro hi hv
      show PW _ _ _ _ _ _ (5, [(0, .ref r), (1, .int 0)], [], w)
      refine P_iload_n d_Rows_lastPlace_5 rfl ?_
      refine P_if_le 25 d_Rows_lastPlace_6 (by decide) (fun _ => ?_) (fun h => absurd (by decide) h)
      refine P_iconst (v := 0) d_Rows_lastPlace_25 (by decide) ?_
      exact P_iret d_Rows_lastPlace_26 rfl (le_b rfl) (le_b rfl) ⟨by rw [← hv]; rfl, rfl⟩
    | succ i ih =>
      intro hi hv
      refine P_iload_n d_Rows_lastPlace_5 rfl ?_
      refine P_if_le 25 d_Rows_lastPlace_6 (by decide) (fun h => absurd h (nI_nle (by omega) (by omega))) (fun _ => ?_)
      refine P_aload_n d_Rows_lastPlace_9 rfl ?_
      refine P_iload_n d_Rows_lastPlace_10 rfl ?_
      refine P_lald (j := (i + 1)) d_Rows_lastPlace_11 hr (ix_nI (by omega)) (by omega) ?_
      refine P_lconst (v := 0) d_Rows_lastPlace_12 (by decide) ?_
      refine P_lcmp d_Rows_lastPlace_13 ?_
      refine P_if_eq 19 d_Rows_lastPlace_14 (by decide) (fun c1 => ?_) (fun c1 => ?_)
      · refine P_iinc (v := nI i) d_Rows_lastPlace_19 (by decide) rfl (nI_dn i) rfl ?_
        refine P_goto 5 d_Rows_lastPlace_22 (by decide) ?_
        exact ih (by omega) ((lpF_0 (cmp_eq c1)).symm.trans hv)
      · refine P_iload_n d_Rows_lastPlace_17 rfl ?_
        exact P_iret d_Rows_lastPlace_18 rfl (le_b rfl) (le_b rfl) ⟨by rw [← hv, lpF_1 (cmp_ne c1)], rfl⟩
  exact L (N - 1) (by omega) rfl
theorem v_Rows_reduce {G : pG} {w : pW} {r N : Nat} {f : Nat → Int64} (hr : w.2 r = .inl (1, N, .inr (.inl f))) (h0 : 0 < N) (hN : N < 1000000) (hx : r < 1000000) : PM G M_Rows_reduce 2 0 0 [.ref r] w (fun r' w' => r' = none ∧ w' = (w.1, wu w.2 r (.inl (1, N, .inr (.inl (rdC N f)))))) := by
  refine PM_of pn_Rows_reduce (le_b rfl) ?_
  show PW _ _ _ _ _ _ (0, [(0, .ref r)], [], w)
  have K59 : ∀ b : Int64, ¬ b = 0 → dvF f b N = rdC N f → PW G M_Rows_reduce (rmD 2 0 0) (QM G (fun r' w' => r' = none ∧ w' = (w.1, wu w.2 r (.inl (1, N, .inr (.inl (rdC N f)))))) 0 0) 0 0 (59, [(0, .ref r), (1, .long b), (3, .int 0)], [], w) := by
    intro b hb hv
    refine PW_ind (σ := pW) N (fun j u => u = (w.1, wu w.2 r (.inl (1, N, .inr (.inl (dvF f b j)))))) (fun j u => (59, [(0, .ref r), (1, .long b), (3, .int (nI j))], [], u)) ?_ ?_ 0 w (by omega) (by rw [dvF_0, wu_same hr])
    · intro u eu
      replace eu : u = (w.1, wu w.2 r (.inl (1, N, .inr (.inl (dvF f b N))))) := eu
      show PW _ _ _ _ _ _ (59, [(0, .ref r), (1, .long b), (3, .int (nI N))], [], u)
      have hr1 : u.2 r = .inl (1, N, .inr (.inl (dvF f b N))) := w_s eu
      refine P_iload_n d_Rows_reduce_59 rfl ?_
      refine P_aload_n d_Rows_reduce_60 rfl ?_
      refine P_alen (v := nI N) d_Rows_reduce_61 hr1 rfl ?_
      refine P_icmp_ge 78 d_Rows_reduce_62 (by decide) (fun _ => ?_) (fun h => absurd (Int32.le_refl _) h)
      exact P_vret d_Rows_reduce_78 rfl (le_b rfl) (le_b rfl) ⟨rfl, by rw [eu, hv]⟩
    · intro j u hj eu kk
      replace eu : u = (w.1, wu w.2 r (.inl (1, N, .inr (.inl (dvF f b j))))) := eu
      show PW _ _ _ _ _ _ (59, [(0, .ref r), (1, .long b), (3, .int (nI j))], [], u)
      have hr1 : u.2 r = .inl (1, N, .inr (.inl (dvF f b j))) := w_s eu
      refine P_iload_n d_Rows_reduce_59 rfl ?_
      refine P_aload_n d_Rows_reduce_60 rfl ?_
      refine P_alen (v := nI N) d_Rows_reduce_61 hr1 rfl ?_
      refine P_icmp_ge 78 d_Rows_reduce_62 (by decide) (fun h => absurd h (nI_ge hj (by omega))) (fun _ => ?_)
      refine P_aload_n d_Rows_reduce_65 rfl ?_
      refine P_iload_n d_Rows_reduce_66 rfl ?_
      refine P_dup2 d_Rows_reduce_67 rfl rfl ?_
      refine P_lald (j := j) d_Rows_reduce_68 hr1 (ix_nI (by omega)) (by omega) ?_
      refine P_lload_n d_Rows_reduce_69 rfl ?_
      refine P_ldiv d_Rows_reduce_70 hb ?_
      refine P_lastG (j := j) d_Rows_reduce_71 hr1 (by omega) (ix_nI (by omega)) (by omega) (fun w1 e1 s1 n1 z1 => ?_)
      show PW _ _ _ _ _ _ (72, [(0, .ref r), (1, .long b), (3, .int (nI j))], [], w1)
      refine P_iinc (v := nI (j + 1)) d_Rows_reduce_72 (by decide) rfl (nI_succ j).symm rfl ?_
      refine P_goto 59 d_Rows_reduce_75 (by decide) ?_
      exact kk w1 (by rw [e1, eu]; exact congrArg (Prod.mk w.1) (dv_step w.2 r N f b j hj))
  have K44 : PW G M_Rows_reduce (rmD 2 0 0) (QM G (fun r' w' => r' = none ∧ w' = (w.1, wu w.2 r (.inl (1, N, .inr (.inl (rdC N f)))))) 0 0) 0 0 (44, [(0, .ref r), (1, .long (byC N f))], [], w) := by
    refine P_lload_n d_Rows_reduce_44 rfl ?_
    refine P_lconst (v := 0) d_Rows_reduce_45 (by decide) ?_
    refine P_lcmp d_Rows_reduce_46 ?_
    refine P_if_eq 56 d_Rows_reduce_47 (by decide) (fun c1 => ?_) (fun c1 => ?_)
    · exact P_vret d_Rows_reduce_56 rfl (le_b rfl) (le_b rfl) ⟨rfl, by rw [rdC_s (Or.inl (cmp_eq c1)), wu_same hr]⟩
    · refine P_lload_n d_Rows_reduce_50 rfl ?_
      refine P_lconst (v := 1) d_Rows_reduce_51 (by decide) ?_
      refine P_lcmp d_Rows_reduce_52 ?_
      refine P_if_ne 57 d_Rows_reduce_53 (by decide) (fun c2 => ?_) (fun c2 => ?_)
      · refine P_iconst (v := 0) d_Rows_reduce_57 (by decide) ?_
        refine P_istore_n d_Rows_reduce_58 (by decide) rfl ?_
        exact K59 _ (cmp_ne c1) (rdC_d (cmp_ne c1) (cmp_ne c2)).symm
      · exact P_vret d_Rows_reduce_56 rfl (le_b rfl) (le_b rfl) ⟨rfl, by rw [rdC_s (Or.inr (cmp_eq c2)), wu_same hr]⟩
  have K30 : PW G M_Rows_reduce (rmD 2 0 0) (QM G (fun r' w' => r' = none ∧ w' = (w.1, wu w.2 r (.inl (1, N, .inr (.inl (rdC N f)))))) 0 0) 0 0 (30, [(0, .ref r), (1, .long (gC f N 0 0))], [], w) := by
    refine P_aload_n d_Rows_reduce_30 rfl ?_
    refine P_aload_n d_Rows_reduce_31 rfl ?_
    refine P_callS (M := M_Rows_reduce) (pc := 32) (as := [.ref r]) d_Rows_reduce_32 co_Rows_lastPlace L_Rows_21 sm_Rows_lastPlace (v_Rows_lastPlace hr h0 hN) rfl ⟨by decide, by decide⟩ ⟨by decide, by decide⟩ (by exact le_b rfl) ?_ _ rfl
    rintro _ u ⟨rfl, eu⟩
    subst u
    show PW _ _ _ _ _ _ (35, [(0, .ref r), (1, .long (gC f N 0 0))], [.int (nI (lpF f (N - 1))), .ref r], w)
    refine P_lald (j := (lpF f (N - 1))) d_Rows_reduce_35 hr (ix_nI (Nat.lt_trans (lpF_lt h0) (by omega))) (lpF_lt h0) ?_
    refine P_lconst (v := 0) d_Rows_reduce_36 (by decide) ?_
    refine P_lcmp d_Rows_reduce_37 ?_
    refine P_if_ge 44 d_Rows_reduce_38 (by decide) (fun c1 => ?_) (fun c1 => ?_)
    · have hv : byC N f = gC f N 0 0 := if_neg (cmp_ge c1)
      rw [← hv]
      exact K44
    · refine P_lload_n d_Rows_reduce_41 rfl ?_
      refine P_lneg d_Rows_reduce_42 ?_
      refine P_lstore_n d_Rows_reduce_43 (by decide) rfl ?_
      have hv : byC N f = -gC f N 0 0 := if_pos (cmp_nge c1)
      rw [← hv]
      exact K44
  refine P_lconst (v := 0) d_Rows_reduce_0 (by decide) ?_
  refine P_lstore_n d_Rows_reduce_1 (by decide) rfl ?_
  refine P_iconst (v := 0) d_Rows_reduce_2 (by decide) ?_
  refine P_istore_n d_Rows_reduce_3 (by decide) rfl ?_
  refine PW_ind (σ := Int64) N (fun j b => gC f (N - j) j b = gC f N 0 0) (fun j b => (4, [(0, .ref r), (1, .long b), (3, .int (nI j))], [], w)) ?_ ?_ 0 0 (by omega) rfl
  · intro b hv
    show PW _ _ _ _ _ _ (4, [(0, .ref r), (1, .long b), (3, .int (nI N))], [], w)
    replace hv : gC f (N - N) N b = gC f N 0 0 := hv
    rw [Nat.sub_self] at hv
    refine P_iload_n d_Rows_reduce_4 rfl ?_
    refine P_aload_n d_Rows_reduce_5 rfl ?_
    refine P_alen (v := nI N) d_Rows_reduce_6 hr rfl ?_
    refine P_icmp_ge 30 d_Rows_reduce_7 (by decide) (fun _ => ?_) (fun h => absurd (Int32.le_refl _) h)
    refine PW.drop (lv' := [(0, .ref r), (1, .long b)]) (by simp) ?_
    rw [show b = _ from hv]
    exact K30
  · intro j b hj hv kk
    replace hv : gC f (N - j) j b = gC f N 0 0 := hv
    show PW _ _ _ _ _ _ (4, [(0, .ref r), (1, .long b), (3, .int (nI j))], [], w)
    refine P_iload_n d_Rows_reduce_4 rfl ?_
    refine P_aload_n d_Rows_reduce_5 rfl ?_
    refine P_alen (v := nI N) d_Rows_reduce_6 hr rfl ?_
    refine P_icmp_ge 30 d_Rows_reduce_7 (by decide) (fun h => absurd h (nI_ge hj (by omega))) (fun _ => ?_)
    refine P_lload_n d_Rows_reduce_10 rfl ?_
    refine P_lconst (v := 1) d_Rows_reduce_11 (by decide) ?_
    refine P_lcmp d_Rows_reduce_12 ?_
    refine P_if_eq 30 d_Rows_reduce_13 (by decide) (fun c1 => ?_) (fun c1 => ?_)
    · refine PW.drop (lv' := [(0, .ref r), (1, .long b)]) (by simp) ?_
      rw [gC_1 hj (cmp_eq c1)] at hv
      rw [show b = _ from hv]
      exact K30
    · refine P_lload_n d_Rows_reduce_16 rfl ?_
      refine P_aload_n d_Rows_reduce_17 rfl ?_
      refine P_iload_n d_Rows_reduce_18 rfl ?_
      refine P_lald (j := j) d_Rows_reduce_19 hr (ix_nI (by omega)) (by omega) ?_
      refine P_callS (M := M_Rows_reduce) (pc := 20) (as := [.long b, .long (f j)]) d_Rows_reduce_20 co_Rows_divisor L_Rows_17 sm_Rows_divisor (v_Rows_divisor b (f j)) rfl ⟨by decide, by decide⟩ ⟨by decide, by decide⟩ (by exact le_b rfl) ?_ _ rfl
      rintro _ u ⟨rfl, eu⟩
      subst u
      show PW _ _ _ _ _ _ (23, [(0, .ref r), (1, .long b), (3, .int (nI j))], [.long (euS 1000 (absL b) (absL (f j)))], w)
      refine P_lstore_n d_Rows_reduce_23 (by decide) rfl ?_
      refine P_iinc (v := nI (j + 1)) d_Rows_reduce_24 (by decide) rfl (nI_succ j).symm rfl ?_
      refine P_goto 4 d_Rows_reduce_27 (by decide) ?_
      exact kk _ ((gC_s hj (cmp_ne c1)).symm.trans hv)
theorem v_Rows_put {G : pG} {w : pW} {r : Nat} {f : Nat → Int64} (hr : w.2 r = .inl (1, 3, .inr (.inl f))) (hx : r < 1000000) (x y z : Int64) : PM G M_Rows_put 0 0 0 [.long x, .long y, .long z, .ref r] w (fun r' w' => r' = none ∧ w' = (w.1, wu w.2 r (.inl (1, 3, .inr (.inl (p3 f x y z)))))) := by
  refine PM_of pn_Rows_put (le_b rfl) ?_
  show PW _ _ _ _ _ _ (0, [(0, .long x), (2, .long y), (4, .long z), (6, .ref r)], [], w)
  refine P_aload d_Rows_put_0 rfl ?_
  refine P_iconst (v := 0) d_Rows_put_2 (by decide) ?_
  refine P_lload_n d_Rows_put_3 rfl ?_
  refine P_lastG (j := 0) d_Rows_put_4 hr (by omega) ⟨by decide, by decide⟩ (by decide) (fun w1 e1 s1 n1 z1 => ?_)
  show PW _ _ _ _ _ _ (5, [(0, .long x), (2, .long y), (4, .long z), (6, .ref r)], [], w1)
  refine P_aload d_Rows_put_5 rfl ?_
  refine P_iconst (v := 1) d_Rows_put_7 (by decide) ?_
  refine P_lload_n d_Rows_put_8 rfl ?_
  refine P_lastG (j := 1) d_Rows_put_9 s1 (by omega) ⟨by decide, by decide⟩ (by decide) (fun w2 e2 s2 n2 z2 => ?_)
  show PW _ _ _ _ _ _ (10, [(0, .long x), (2, .long y), (4, .long z), (6, .ref r)], [], w2)
  refine P_aload d_Rows_put_10 rfl ?_
  refine P_iconst (v := 2) d_Rows_put_12 (by decide) ?_
  refine P_lload d_Rows_put_13 rfl ?_
  refine P_lastG (j := 2) d_Rows_put_15 s2 (by omega) ⟨by decide, by decide⟩ (by decide) (fun w3 e3 s3 n3 z3 => ?_)
  show PW _ _ _ _ _ _ (16, [(0, .long x), (2, .long y), (4, .long z), (6, .ref r)], [], w3)
  exact P_vret d_Rows_put_16 rfl (le_b rfl) (le_b rfl) ⟨rfl, by rw [e3, e2, e1]; exact congrArg (Prod.mk w.1) (wu_3 _ _ _ _ _)⟩
theorem v_Rows_copy {G : pG} {w : pW} {a b N : Nat} {f g : Nat → Int64} (ha : w.2 a = .inl (1, N, .inr (.inl f))) (hb : w.2 b = .inl (1, N, .inr (.inl g))) (hN : N < 1000000) (hx : b < 1000000) : PM G M_Rows_copy 1 0 0 [.ref a, .ref b] w (fun r w' => r = none ∧ w' = (w.1, wu w.2 b (.inl (1, N, .inr (.inl (va_cpy f g 0 0 N)))))) := by
  refine PM_of pn_Rows_copy (le_b rfl) ?_
  show PW _ _ _ _ _ _ (0, [(0, .ref a), (1, .ref b)], [], w)
  refine P_aload_n d_Rows_copy_0 rfl ?_
  refine P_iconst (v := 0) d_Rows_copy_1 (by decide) ?_
  refine P_aload_n d_Rows_copy_2 rfl ?_
  refine P_iconst (v := 0) d_Rows_copy_3 (by decide) ?_
  refine P_aload_n d_Rows_copy_4 rfl ?_
  refine P_alen (v := nI N) d_Rows_copy_5 ha rfl ?_
  refine P_aload_n d_Rows_copy_6 rfl ?_
  refine P_alen (v := nI N) d_Rows_copy_7 hb rfl ?_
  refine P_mmini d_Rows_copy_8 L_Rows_25 st_min in_Math cd_min ⟨by decide, by decide, by decide, by decide⟩ (by exact le_b rfl) ?_
  rw [ite_self]
  refine P_copylG (i := 0) (j := 0) (q := N) d_Rows_copy_11 L_Rows_29 st_acopy.1 st_acopy.2.1 st_acopy.2.2 ha hb (by omega) ⟨by decide, by decide⟩ ⟨by decide, by decide⟩ (ix_nI (by omega)) (by omega) (by omega) ⟨by decide, by decide⟩ (by exact le_b rfl) (fun w1 e1 s1 n1 z1 => ?_)
  show PW _ _ _ _ _ _ (14, [(0, .ref a), (1, .ref b)], [], w1)
  exact P_vret d_Rows_copy_14 rfl (le_b rfl) (le_b rfl) ⟨rfl, by rw [e1]⟩
theorem v_CM_isNumber {G : pG} {w : pW} (a : Int32) : PM G M_CM_isNumber 0 0 0 [.int a] w (fun r w' => r = some (.int (bi (edge a))) ∧ w' = w) := by
  refine PM_of pn_CM_isNumber (le_b rfl) ?_
  show PW _ _ _ _ _ _ (0, [(0, .int a)], [], w)
  refine P_iload_n d_CM_isNumber_0 rfl ?_
  refine P_sipush (v := (-9999)) d_CM_isNumber_1 (by decide) ?_
  refine P_icmp_lt 18 d_CM_isNumber_4 (by decide) (fun c1 => ?_) (fun c1 => ?_)
  · refine P_iconst (v := 0) d_CM_isNumber_18 (by decide) ?_
    exact P_zret d_CM_isNumber_19 rfl rfl (le_b rfl) (le_b rfl) ⟨by simp [bi, edge, *], rfl⟩
  · refine P_iload_n d_CM_isNumber_7 rfl ?_
    refine P_sipush (v := 9999) d_CM_isNumber_8 (by decide) ?_
    refine P_icmp_gt 18 d_CM_isNumber_11 (by decide) (fun c2 => ?_) (fun c2 => ?_)
    · refine P_iconst (v := 0) d_CM_isNumber_18 (by decide) ?_
      exact P_zret d_CM_isNumber_19 rfl rfl (le_b rfl) (le_b rfl) ⟨by simp [bi, edge, *], rfl⟩
    · refine P_iconst (v := 1) d_CM_isNumber_14 (by decide) ?_
      refine P_goto 19 d_CM_isNumber_15 (by decide) ?_
      exact P_zret d_CM_isNumber_19 rfl rfl (le_b rfl) (le_b rfl) ⟨by simp [bi, edge, *], rfl⟩
theorem v_MD_isEdge {G : pG} {w : pW} (a : Int32) : PM G M_MD_isEdge 0 0 0 [.int a] w (fun r w' => r = some (.int (bi (edge a))) ∧ w' = w) := by
  refine PM_of pn_MD_isEdge (le_b rfl) ?_
  show PW _ _ _ _ _ _ (0, [(0, .int a)], [], w)
  refine P_iload_n d_MD_isEdge_0 rfl ?_
  refine P_sipush (v := (-9999)) d_MD_isEdge_1 (by decide) ?_
  refine P_icmp_lt 18 d_MD_isEdge_4 (by decide) (fun c1 => ?_) (fun c1 => ?_)
  · refine P_iconst (v := 0) d_MD_isEdge_18 (by decide) ?_
    exact P_zret d_MD_isEdge_19 rfl rfl (le_b rfl) (le_b rfl) ⟨by simp [bi, edge, *], rfl⟩
  · refine P_iload_n d_MD_isEdge_7 rfl ?_
    refine P_sipush (v := 9999) d_MD_isEdge_8 (by decide) ?_
    refine P_icmp_gt 18 d_MD_isEdge_11 (by decide) (fun c2 => ?_) (fun c2 => ?_)
    · refine P_iconst (v := 0) d_MD_isEdge_18 (by decide) ?_
      exact P_zret d_MD_isEdge_19 rfl rfl (le_b rfl) (le_b rfl) ⟨by simp [bi, edge, *], rfl⟩
    · refine P_iconst (v := 1) d_MD_isEdge_14 (by decide) ?_
      refine P_goto 19 d_MD_isEdge_15 (by decide) ?_
      exact P_zret d_MD_isEdge_19 rfl rfl (le_b rfl) (le_b rfl) ⟨by simp [bi, edge, *], rfl⟩
theorem v_CM_areNumbers {G : pG} {w : pW} (x y z : Int32) : PM G M_CM_areNumbers 1 0 0 [.int x, .int y, .int z] w (fun r w' => r = some (.int (bi (edge3 x y z))) ∧ w' = w) := by
  refine PM_of pn_CM_areNumbers (le_b rfl) ?_
  show PW _ _ _ _ _ _ (0, [(0, .int x), (1, .int y), (2, .int z)], [], w)
  refine P_iload_n d_CM_areNumbers_0 rfl ?_
  refine P_callS (M := M_CM_areNumbers) (pc := 1) (as := [.int x]) d_CM_areNumbers_1 co_CM_isNumber L_CM_443 sm_CM_isNumber (v_CM_isNumber x) rfl ⟨by decide, by decide⟩ ⟨by decide, by decide⟩ (by exact le_b rfl) ?_ _ rfl
  rintro _ u ⟨rfl, eu⟩
  subst u
  show PW _ _ _ _ _ _ (4, [(0, .int x), (1, .int y), (2, .int z)], [.int (bi (edge x))], w)
  refine P_if_eq 25 d_CM_areNumbers_4 (by decide) (fun c1 => ?_) (fun c1 => ?_)
  · refine P_iconst (v := 0) d_CM_areNumbers_25 (by decide) ?_
    exact P_zret d_CM_areNumbers_26 rfl rfl (le_b rfl) (le_b rfl) ⟨by simp [edge3, bi, bi_0 c1], rfl⟩
  · refine P_iload_n d_CM_areNumbers_7 rfl ?_
    refine P_callS (M := M_CM_areNumbers) (pc := 8) (as := [.int y]) d_CM_areNumbers_8 co_CM_isNumber L_CM_443 sm_CM_isNumber (v_CM_isNumber y) rfl ⟨by decide, by decide⟩ ⟨by decide, by decide⟩ (by exact le_b rfl) ?_ _ rfl
    rintro _ u ⟨rfl, eu⟩
    subst u
    show PW _ _ _ _ _ _ (11, [(0, .int x), (1, .int y), (2, .int z)], [.int (bi (edge y))], w)
    refine P_if_eq 25 d_CM_areNumbers_11 (by decide) (fun c2 => ?_) (fun c2 => ?_)
    · refine P_iconst (v := 0) d_CM_areNumbers_25 (by decide) ?_
      exact P_zret d_CM_areNumbers_26 rfl rfl (le_b rfl) (le_b rfl) ⟨by simp [edge3, bi, bi_1 c1, bi_0 c2], rfl⟩
    · refine P_iload_n d_CM_areNumbers_14 rfl ?_
      refine P_callS (M := M_CM_areNumbers) (pc := 15) (as := [.int z]) d_CM_areNumbers_15 co_CM_isNumber L_CM_443 sm_CM_isNumber (v_CM_isNumber z) rfl ⟨by decide, by decide⟩ ⟨by decide, by decide⟩ (by exact le_b rfl) ?_ _ rfl
      rintro _ u ⟨rfl, eu⟩
      subst u
      show PW _ _ _ _ _ _ (18, [(0, .int x), (1, .int y), (2, .int z)], [.int (bi (edge z))], w)
      refine P_if_eq 25 d_CM_areNumbers_18 (by decide) (fun c3 => ?_) (fun c3 => ?_)
      · refine P_iconst (v := 0) d_CM_areNumbers_25 (by decide) ?_
        exact P_zret d_CM_areNumbers_26 rfl rfl (le_b rfl) (le_b rfl) ⟨by simp [edge3, bi, bi_1 c1, bi_1 c2, bi_0 c3], rfl⟩
      · refine P_iconst (v := 1) d_CM_areNumbers_21 (by decide) ?_
        refine P_goto 26 d_CM_areNumbers_22 (by decide) ?_
        exact P_zret d_CM_areNumbers_26 rfl rfl (le_b rfl) (le_b rfl) ⟨by simp [edge3, bi, bi_1 c1, bi_1 c2, bi_1 c3], rfl⟩
theorem v_CM_isSomething {G : pG} {w : pW} (x y z : Int32) : PM G M_CM_isSomething 0 0 0 [.int x, .int y, .int z] w (fun r w' => r = some (.int (bi (some3 x y z))) ∧ w' = w) := by
  refine PM_of pn_CM_isSomething (le_b rfl) ?_
  show PW _ _ _ _ _ _ (0, [(0, .int x), (1, .int y), (2, .int z)], [], w)
  refine P_iload_n d_CM_isSomething_0 rfl ?_
  refine P_if_ne 12 d_CM_isSomething_1 (by decide) (fun c1 => ?_) (fun c1 => ?_)
  · refine P_iconst (v := 1) d_CM_isSomething_12 (by decide) ?_
    refine P_goto 17 d_CM_isSomething_13 (by decide) ?_
    exact P_zret d_CM_isSomething_17 rfl rfl (le_b rfl) (le_b rfl) ⟨by simp [some3, bi, *], rfl⟩
  · refine P_iload_n d_CM_isSomething_4 rfl ?_
    refine P_if_ne 12 d_CM_isSomething_5 (by decide) (fun c2 => ?_) (fun c2 => ?_)
    · refine P_iconst (v := 1) d_CM_isSomething_12 (by decide) ?_
      refine P_goto 17 d_CM_isSomething_13 (by decide) ?_
      exact P_zret d_CM_isSomething_17 rfl rfl (le_b rfl) (le_b rfl) ⟨by simp [some3, bi, *], rfl⟩
    · refine P_iload_n d_CM_isSomething_8 rfl ?_
      refine P_if_eq 16 d_CM_isSomething_9 (by decide) (fun c3 => ?_) (fun c3 => ?_)
      · refine P_iconst (v := 0) d_CM_isSomething_16 (by decide) ?_
        exact P_zret d_CM_isSomething_17 rfl rfl (le_b rfl) (le_b rfl) ⟨by simp [some3, bi, *], rfl⟩
      · refine P_iconst (v := 1) d_CM_isSomething_12 (by decide) ?_
        refine P_goto 17 d_CM_isSomething_13 (by decide) ?_
        exact P_zret d_CM_isSomething_17 rfl rfl (le_b rfl) (le_b rfl) ⟨by simp [some3, bi, *], rfl⟩
theorem v_Past_nextPlace {G : pG} {w : pW} (h169 : w.2 169 = .inr (5, [.ref 170, .ref 171, .ref 172, .int 0, .int 0])) : PM G M_Past_nextPlace 0 0 0 [.ref 169] w (fun r w' => r = some (.int 0) ∧ w' = (w.1, wu w.2 169 (.inr (5, [.ref 170, .ref 171, .ref 172, .int 0, .int 1])))) := by
  refine PM_of pn_Past_nextPlace (le_b rfl) ?_
  show PW _ _ _ _ _ _ (0, [(0, .ref 169)], [], w)
  refine P_aload_n d_Past_nextPlace_0 rfl ?_
  refine P_getf (i := 4) d_Past_nextPlace_1 ok_Past (by decide) L_Past_23 h169 rfl ?_
  refine P_bipush (v := 16) d_Past_nextPlace_4 (by decide) ?_
  refine P_icmp_ne 25 d_Past_nextPlace_6 (by decide) (fun _ => ?_) (fun h => absurd h (by decide))
  refine P_aload_n d_Past_nextPlace_25 rfl ?_
  refine P_dup d_Past_nextPlace_26 rfl ?_
  refine P_getf (i := 4) d_Past_nextPlace_27 ok_Past (by decide) L_Past_23 h169 rfl ?_
  refine P_iconst (v := 1) d_Past_nextPlace_30 (by decide) ?_
  refine P_iadd d_Past_nextPlace_31 ?_
  show PW _ _ _ _ _ _ (32, [(0, .ref 169)], [.int 1, .ref 169], w)
  refine P_putG (i := 4) d_Past_nextPlace_32 ok_Past (by decide) rfl L_Past_23 h169 (fun _ => rfl) (fun _ => rfl) (fun w1 e1 s1 n1 z1 => ?_)
  show PW _ _ _ _ _ _ (35, [(0, .ref 169)], [], w1)
  refine P_aload_n d_Past_nextPlace_35 rfl ?_
  refine P_getf (i := 3) d_Past_nextPlace_36 ok_Past (by decide) L_Past_43 s1 rfl ?_
  refine P_aload_n d_Past_nextPlace_39 rfl ?_
  refine P_getf (i := 4) d_Past_nextPlace_40 ok_Past (by decide) L_Past_23 s1 rfl ?_
  refine P_iadd d_Past_nextPlace_43 ?_
  show PW _ _ _ _ _ _ (44, [(0, .ref 169)], [.int 1], w1)
  refine P_iconst (v := 1) d_Past_nextPlace_44 (by decide) ?_
  refine P_isub d_Past_nextPlace_45 ?_
  show PW _ _ _ _ _ _ (46, [(0, .ref 169)], [.int 0], w1)
  refine P_bipush (v := 16) d_Past_nextPlace_46 (by decide) ?_
  refine P_irem d_Past_nextPlace_48 (by decide) ?_
  show PW _ _ _ _ _ _ (49, [(0, .ref 169)], [.int 0], w1)
  exact P_iret d_Past_nextPlace_49 rfl (le_b rfl) (le_b rfl) ⟨rfl, by rw [e1]; rfl⟩
theorem v_Past_told {G : pG} {w : pW} {f : Nat → Int32} (h169 : w.2 169 = .inr (5, [.ref 170, .ref 171, .ref 172, .int 0, .int 0])) (h170 : w.2 170 = .inl (0, 16, .inl f)) : PM G M_Past_told 1 0 0 [.ref 169] w (fun r w' => r = none ∧ w'.1 = w.1 ∧ ∀ i, i ≠ 169 → i ≠ 170 → w'.2 i = w.2 i) := by
  refine PM_of pn_Past_told (le_b rfl) ?_
  show PW _ _ _ _ _ _ (0, [(0, .ref 169)], [], w)
  refine P_aload_n d_Past_told_0 rfl ?_
  refine P_getf (i := 0) d_Past_told_1 ok_Past (by decide) L_Past_9 h169 rfl ?_
  refine P_aload_n d_Past_told_4 rfl ?_
  refine P_callV (M := M_Past_told) (pc := 5) (as := []) (b := 169) d_Past_told_5 co_Past_nextPlace ok_Past h169 L_Past_27 im_Past_nextPlace se_Past_nextPlace (v_Past_nextPlace h169) rfl ⟨by decide, by decide⟩ ⟨by decide, by decide⟩ (by exact le_b rfl) ?_ _ rfl
  rintro _ w1 ⟨rfl, e1⟩
  have s1 : w1.2 169 = .inr (5, [.ref 170, .ref 171, .ref 172, .int 0, .int 1]) := w_s e1
  have n1 : ∀ q, q ≠ 169 → w1.2 q = w.2 q := w_n e1
  have z1 : w1.1 = w.1 := w_z e1
  show PW _ _ _ _ _ _ (8, [(0, .ref 169)], [.int 0, .ref 170], w1)
  refine P_iconst (v := 2) d_Past_told_8 (by decide) ?_
  refine P_iastG (j := 0) d_Past_told_9 ((n1 _ (by decide)).trans h170) (by decide) ⟨by decide, by decide⟩ (by decide) (fun w2 e2 s2 n2 z2 => ?_)
  show PW _ _ _ _ _ _ (10, [(0, .ref 169)], [], w2)
  exact P_vret d_Past_told_10 rfl (le_b rfl) (le_b rfl) ⟨rfl, by rw [z2, z1], fun i h1 h2 => (n2 i h2).trans (n1 i h1)⟩
theorem v_Plane_addPoint {G : pG} {w : pW} {f g : Nat → Int64} (h1 : w.2 1 = .inr (1, [.ref 2, .ref 3, .ref 20, .int 0, .int 0, .int 0, .int 0])) (h20 : w.2 20 = .inl (3, 8, refs (rows_of 20 8))) (h21 : w.2 21 = .inl (1, 3, .inr (.inl f))) (h452 : w.2 452 = .inl (1, 3, .inr (.inl g))) : PM G M_Plane_addPoint 3 0 0 [.ref 1, .ref 452] w (fun r w' => r = none ∧ w'.2 1 = .inr (1, [.ref 2, .ref 3, .ref 20, .int 0, .int 0, .int 0, .int 1]) ∧ w'.1 = w.1 ∧ ∀ i, i ≠ 1 → i ≠ 21 → w'.2 i = w.2 i) := by
  refine PM_of pn_Plane_addPoint (le_b rfl) ?_
  show PW _ _ _ _ _ _ (0, [(0, .ref 1), (1, .ref 452)], [], w)
  refine P_aload_n d_Plane_addPoint_0 rfl ?_
  refine P_getf (i := 6) d_Plane_addPoint_1 ok_Plane (by decide) L_Plane_36 h1 rfl ?_
  refine P_bipush (v := 8) d_Plane_addPoint_4 (by decide) ?_
  refine P_icmp_ge 44 d_Plane_addPoint_6 (by decide) (fun h => absurd h (by decide)) (fun _ => ?_)
  refine P_aload_n d_Plane_addPoint_9 rfl ?_
  refine P_aload_n d_Plane_addPoint_10 rfl ?_
  refine P_getf (i := 2) d_Plane_addPoint_11 ok_Plane (by decide) L_Plane_22 h1 rfl ?_
  refine P_aload_n d_Plane_addPoint_14 rfl ?_
  refine P_getf (i := 6) d_Plane_addPoint_15 ok_Plane (by decide) L_Plane_36 h1 rfl ?_
  refine P_aald (j := 0) (q := 21) d_Plane_addPoint_18 h20 rfl ⟨by decide, by decide⟩ (by decide) rfl ?_
  refine P_callS (M := M_Plane_addPoint) (pc := 19) (as := [.ref 452, .ref 21]) d_Plane_addPoint_19 co_Rows_copy L_Plane_39 sm_Rows_copy (v_Rows_copy h452 h21 (by decide) (by decide)) rfl ⟨by decide, by decide⟩ ⟨by decide, by decide⟩ (by exact le_b rfl) ?_ _ rfl
  rintro _ w1 ⟨rfl, e1⟩
  have s1 : w1.2 21 = .inl (1, 3, .inr (.inl (va_cpy g f 0 0 3))) := w_s e1
  have n1 : ∀ q, q ≠ 21 → w1.2 q = w.2 q := w_n e1
  have z1 : w1.1 = w.1 := w_z e1
  show PW _ _ _ _ _ _ (22, [(0, .ref 1), (1, .ref 452)], [], w1)
  refine P_aload_n d_Plane_addPoint_22 rfl ?_
  refine P_getf (i := 2) d_Plane_addPoint_23 ok_Plane (by decide) L_Plane_22 ((n1 _ (by decide)).trans h1) rfl ?_
  refine P_aload_n d_Plane_addPoint_26 rfl ?_
  refine P_getf (i := 6) d_Plane_addPoint_27 ok_Plane (by decide) L_Plane_36 ((n1 _ (by decide)).trans h1) rfl ?_
  refine P_aald (j := 0) (q := 21) d_Plane_addPoint_30 ((n1 _ (by decide)).trans h20) rfl ⟨by decide, by decide⟩ (by decide) rfl ?_
  refine P_callS (M := M_Plane_addPoint) (pc := 31) (as := [.ref 21]) d_Plane_addPoint_31 co_Rows_reduce L_Plane_49 sm_Rows_reduce (v_Rows_reduce s1 (by decide) (by decide) (by decide)) rfl ⟨by decide, by decide⟩ ⟨by decide, by decide⟩ (by exact le_b rfl) ?_ _ rfl
  rintro _ w2 ⟨rfl, e2⟩
  have s2 : w2.2 21 = .inl (1, 3, .inr (.inl (rdC 3 (va_cpy g f 0 0 3)))) := w_s e2
  have n2 : ∀ q, q ≠ 21 → w2.2 q = w1.2 q := w_n e2
  have z2 : w2.1 = w1.1 := w_z e2
  show PW _ _ _ _ _ _ (34, [(0, .ref 1), (1, .ref 452)], [], w2)
  refine P_aload_n d_Plane_addPoint_34 rfl ?_
  refine P_dup d_Plane_addPoint_35 rfl ?_
  refine P_getf (i := 6) d_Plane_addPoint_36 ok_Plane (by decide) L_Plane_36 ((n2 _ (by decide)).trans ((n1 _ (by decide)).trans h1)) rfl ?_
  refine P_iconst (v := 1) d_Plane_addPoint_39 (by decide) ?_
  refine P_iadd d_Plane_addPoint_40 ?_
  show PW _ _ _ _ _ _ (41, [(0, .ref 1), (1, .ref 452)], [.int 1, .ref 1], w2)
  refine P_putG (i := 6) d_Plane_addPoint_41 ok_Plane (by decide) rfl L_Plane_36 ((n2 _ (by decide)).trans ((n1 _ (by decide)).trans h1)) (fun _ => rfl) (fun _ => rfl) (fun w3 e3 s3 n3 z3 => ?_)
  show PW _ _ _ _ _ _ (44, [(0, .ref 1), (1, .ref 452)], [], w3)
  exact P_vret d_Plane_addPoint_44 rfl (le_b rfl) (le_b rfl) ⟨rfl, s3, by rw [z3, z2, z1], fun i h1 h2 => ((n3 i (by omega)).trans ((n2 i (by omega)).trans (n1 i (by omega))))⟩
theorem v_CM_tell {G : pG} {w : pW} (hC : Has cfL w.2) (x y z : Int32) : PM G M_CM_tell 4 0 0 [.ref 0, .int x, .int y, .int z] w (fun r w' => r = some (.int (tellF x y z)) ∧ frC w w') := by
  refine PM_of pn_CM_tell (le_b rfl) ?_
  show PW _ _ _ _ _ _ (0, [(0, .ref 0), (1, .int x), (2, .int y), (3, .int z)], [], w)
  refine P_iload_n d_CM_tell_0 rfl ?_
  refine P_iload_n d_CM_tell_1 rfl ?_
  refine P_iload_n d_CM_tell_2 rfl ?_
  refine P_callS (M := M_CM_tell) (pc := 3) (as := [.int x, .int y, .int z]) d_CM_tell_3 co_CM_areNumbers L_CM_228 sm_CM_areNumbers (v_CM_areNumbers x y z) rfl ⟨by decide, by decide⟩ ⟨by decide, by decide⟩ (by exact le_b rfl) ?_ _ rfl
  rintro _ u ⟨rfl, eu⟩
  subst u
  show PW _ _ _ _ _ _ (6, [(0, .ref 0), (1, .int x), (2, .int y), (3, .int z)], [.int (bi (edge3 x y z))], w)
  refine P_if_ne 11 d_CM_tell_6 (by decide) (fun c1 => ?_) (fun c1 => ?_)
  · refine P_aload_n d_CM_tell_11 rfl ?_
    refine P_getf (i := 0) d_CM_tell_12 ok_CM (by decide) L_CM_12 (fa hC 28 rfl) rfl ?_
    refine P_getfN (i := 6) d_CM_tell_15 ok_Plane (by decide) L_CM_232 (fa hC 29 rfl) rfl ?_
    refine P_bipush (v := 8) d_CM_tell_18 (by decide) ?_
    refine P_icmp_eq 32 d_CM_tell_20 (by decide) (fun h => absurd h (by decide)) (fun _ => ?_)
    refine P_iload_n d_CM_tell_23 rfl ?_
    refine P_iload_n d_CM_tell_24 rfl ?_
    refine P_iload_n d_CM_tell_25 rfl ?_
    refine P_callS (M := M_CM_tell) (pc := 26) (as := [.int x, .int y, .int z]) d_CM_tell_26 co_CM_isSomething L_CM_235 sm_CM_isSomething (v_CM_isSomething x y z) rfl ⟨by decide, by decide⟩ ⟨by decide, by decide⟩ (by exact le_b rfl) ?_ _ rfl
    rintro _ u ⟨rfl, eu⟩
    subst u
    show PW _ _ _ _ _ _ (29, [(0, .ref 0), (1, .int x), (2, .int y), (3, .int z)], [.int (bi (some3 x y z))], w)
    refine P_if_ne 35 d_CM_tell_29 (by decide) (fun c2 => ?_) (fun c2 => ?_)
    · refine P_iload_n d_CM_tell_35 rfl ?_
      refine P_i2l d_CM_tell_36 ?_
      refine P_iload_n d_CM_tell_37 rfl ?_
      refine P_i2l d_CM_tell_38 ?_
      refine P_iload_n d_CM_tell_39 rfl ?_
      refine P_i2l d_CM_tell_40 ?_
      refine P_aload_n d_CM_tell_41 rfl ?_
      refine P_getf (i := 11) d_CM_tell_42 ok_CM (by decide) L_CM_75 (fa hC 28 rfl) rfl ?_
      refine P_callS (M := M_CM_tell) (pc := 45) (as := [.long x.toInt64, .long y.toInt64, .long z.toInt64, .ref 452]) d_CM_tell_45 co_Rows_put L_CM_238 sm_Rows_put (v_Rows_put (fa hC 21 rfl) (by decide) x.toInt64 y.toInt64 z.toInt64) rfl ⟨by decide, by decide⟩ ⟨by decide, by decide⟩ (by exact le_b rfl) ?_ _ rfl
      rintro _ w3 ⟨rfl, e3⟩
      have s3 : w3.2 452 = .inl (1, 3, .inr (.inl (p3 (fun _ => 0) x.toInt64 y.toInt64 z.toInt64))) := w_s e3
      have n3 : ∀ q, q ≠ 452 → w3.2 q = w.2 q := w_n e3
      have z3 : w3.1 = w.1 := w_z e3
      show PW _ _ _ _ _ _ (48, [(0, .ref 0), (1, .int x), (2, .int y), (3, .int z)], [], w3)
      refine P_aload_n d_CM_tell_48 rfl ?_
      refine P_getf (i := 0) d_CM_tell_49 ok_CM (by decide) L_CM_12 ((n3 _ (by decide)).trans (fa hC 28 rfl)) rfl ?_
      refine P_aload_n d_CM_tell_52 rfl ?_
      refine P_getf (i := 11) d_CM_tell_53 ok_CM (by decide) L_CM_75 ((n3 _ (by decide)).trans (fa hC 28 rfl)) rfl ?_
      refine P_callV (M := M_CM_tell) (pc := 56) (as := [.ref 452]) (b := 1) d_CM_tell_56 co_Plane_addPoint ok_Plane ((n3 _ (by decide)).trans (fa hC 29 rfl)) L_CM_241 im_Plane_addPoint se_Plane_addPoint (v_Plane_addPoint ((n3 _ (by decide)).trans (fa hC 29 rfl)) ((n3 _ (by decide)).trans (fa hC 31 rfl)) ((n3 _ (by decide)).trans (fa hC 32 rfl)) s3) rfl ⟨by decide, by decide⟩ ⟨by decide, by decide⟩ (by exact le_b rfl) ?_ _ rfl
      rintro _ w4 ⟨rfl, s4, z4, n4⟩
      show PW _ _ _ _ _ _ (59, [(0, .ref 0), (1, .int x), (2, .int y), (3, .int z)], [], w4)
      refine P_aload_n d_CM_tell_59 rfl ?_
      refine P_getf (i := 4) d_CM_tell_60 ok_CM (by decide) L_CM_47 ((n4 _ (by decide) (by decide)).trans ((n3 _ (by decide)).trans (fa hC 28 rfl))) rfl ?_
      refine P_callV (M := M_CM_tell) (pc := 63) (as := []) (b := 169) d_CM_tell_63 co_Past_told ok_Past ((n4 _ (by decide) (by decide)).trans ((n3 _ (by decide)).trans (fa hC 13 rfl))) L_CM_245 im_Past_told se_Past_told (v_Past_told ((n4 _ (by decide) (by decide)).trans ((n3 _ (by decide)).trans (fa hC 13 rfl))) ((n4 _ (by decide) (by decide)).trans ((n3 _ (by decide)).trans (fa hC 10 rfl)))) rfl ⟨by decide, by decide⟩ ⟨by decide, by decide⟩ (by exact le_b rfl) ?_ _ rfl
      rintro _ w5 ⟨rfl, z5, m5⟩
      have n5 : ∀ q, q ≠ 169 → q ≠ 170 → w5.2 q = w4.2 q := m5
      show PW _ _ _ _ _ _ (66, [(0, .ref 0), (1, .int x), (2, .int y), (3, .int z)], [], w5)
      refine P_aload_n d_CM_tell_66 rfl ?_
      refine P_getf (i := 0) d_CM_tell_67 ok_CM (by decide) L_CM_12 ((n5 _ (by decide) (by decide)).trans ((n4 _ (by decide) (by decide)).trans ((n3 _ (by decide)).trans (fa hC 28 rfl)))) rfl ?_
      refine P_getfN (i := 6) d_CM_tell_70 ok_Plane (by decide) L_CM_232 ((n5 _ (by decide) (by decide)).trans s4) rfl ?_
      refine P_iconst (v := 1) d_CM_tell_73 (by decide) ?_
      refine P_isub d_CM_tell_74 ?_
      show PW _ _ _ _ _ _ (75, [(0, .ref 0), (1, .int x), (2, .int y), (3, .int z)], [.int 0], w5)
      exact P_iret d_CM_tell_75 rfl (le_b rfl) (le_b rfl) ⟨by unfold tellF; rw [show edge3 x y z = true from bi_1 c1]; simp [bi_1 c2], by rw [z5, z4, z3], fun i hi => ((n5 i (by omega) (by omega)).trans ((n4 i (by omega) (by omega)).trans (n3 i (by omega))))⟩
    · refine P_bipush (v := (-2)) d_CM_tell_32 (by decide) ?_
      exact P_iret d_CM_tell_34 rfl (le_b rfl) (le_b rfl) ⟨by unfold tellF; rw [show edge3 x y z = true from bi_1 c1]; simp [bi_0 c2], rfl, fun i hi => rfl⟩
  · refine P_iconst (v := (-1)) d_CM_tell_9 (by decide) ?_
    exact P_iret d_CM_tell_10 rfl (le_b rfl) (le_b rfl) ⟨by unfold tellF; rw [show edge3 x y z = false from bi_0 c1]; simp [], rfl, fun i hi => rfl⟩
theorem v_MD_common {G : pG} {w : pW} (a b : Int64) : PM G M_MD_common 1 0 0 [.long a, .long b] w (fun r w' => (∃ v, r = some (.long v)) ∧ w' = w) := by
  refine PM_of pn_MD_common (le_b rfl) ?_
  show PW _ _ _ _ _ _ (0, [(0, .long a), (2, .long b)], [], w)
  refine P_lload_n d_MD_common_0 rfl ?_
  refine P_mabsl d_MD_common_1 L_MD_210 st_abs in_Math cd_abs ⟨by decide, by decide, by decide, by decide⟩ (by exact le_b rfl) ?_
  show PW _ _ _ _ _ _ (4, [(0, .long a), (2, .long b)], [.long (absL a)], w)
  refine P_lstore d_MD_common_4 (by decide) rfl ?_
  refine P_lload_n d_MD_common_6 rfl ?_
  refine P_mabsl d_MD_common_7 L_MD_210 st_abs in_Math cd_abs ⟨by decide, by decide, by decide, by decide⟩ (by exact le_b rfl) ?_
  show PW _ _ _ _ _ _ (10, [(0, .long a), (2, .long b), (4, .long (absL a))], [.long (absL b)], w)
  refine P_lstore d_MD_common_10 (by decide) rfl ?_
  refine PW_meas (σ := Int64 × Int64) (fun s => s.2.toInt.natAbs) (fun _ => True) (fun s => (12, [(0, .long a), (2, .long b), (4, .long s.1), (6, .long s.2)], [], w)) ?_ (absL a, absL b) trivial
  rintro ⟨x, y⟩ _ kk
  show PW _ _ _ _ _ _ (12, [(0, .long a), (2, .long b), (4, .long x), (6, .long y)], [], w)
  refine P_lload d_MD_common_12 rfl ?_
  refine P_lconst (v := 0) d_MD_common_14 (by decide) ?_
  refine P_lcmp d_MD_common_15 ?_
  refine P_if_eq 37 d_MD_common_16 (by decide) (fun c1 => ?_) (fun c1 => ?_)
  · refine P_lload d_MD_common_37 rfl ?_
    exact P_lret d_MD_common_39 rfl (le_b rfl) (le_b rfl) ⟨⟨_, rfl⟩, rfl⟩
  · refine P_lload d_MD_common_19 rfl ?_
    refine P_lload d_MD_common_21 rfl ?_
    refine P_lrem d_MD_common_23 (cmp_ne c1) ?_
    refine P_lstore d_MD_common_24 (by decide) rfl ?_
    refine P_lload d_MD_common_26 rfl ?_
    refine P_lstore d_MD_common_28 (by decide) rfl ?_
    refine P_lload d_MD_common_30 rfl ?_
    refine P_lstore d_MD_common_32 (by decide) rfl ?_
    refine P_goto 12 d_MD_common_34 (by decide) ?_
    show PW _ _ _ _ _ _ (12, [(0, .long a), (2, .long b), (4, .long y), (6, .long (x - x / y * y)), (8, .long (x - x / y * y))], [], w)
    refine PW.drop (lv' := [(0, .long a), (2, .long b), (4, .long y), (6, .long (x - x / y * y))]) (by simp) ?_
    exact kk (y, x - x / y * y) (rem_less (cmp_ne c1)) trivial
theorem v_MD_reduces {G : pG} {w : pW} {r N : Nat} {f : Nat → Int64} (hr : w.2 r = .inl (1, N, .inr (.inl f))) (h0 : 0 < N) (hN : N < 1000000) (hx : r < 1000000) : PM G M_MD_reduces 2 0 0 [.ref r] w (fun r' w' => r' = none ∧ ∃ g, w' = (w.1, wu w.2 r (.inl (1, N, .inr (.inl g))))) := by
  refine PM_of pn_MD_reduces (le_b rfl) ?_
  show PW _ _ _ _ _ _ (0, [(0, .ref r)], [], w)
  have K67 : ∀ (b l : Int64) (i : Int32), ¬ b = 0 → PW G M_MD_reduces (rmD 2 0 0) (QM G (fun r' w' => r' = none ∧ ∃ g, w' = (w.1, wu w.2 r (.inl (1, N, .inr (.inl g))))) 0 0) 0 0 (67, [(0, .ref r), (1, .long b), (3, .long l), (5, .int i)], [], w) := by
    intro b l i hb
    refine P_iconst (v := 0) d_MD_reduces_67 (by decide) ?_
    refine P_istore d_MD_reduces_68 (by decide) rfl ?_
    refine PW_ind (σ := pW) N (fun _ u => ∃ g : Nat → Int64, u = (w.1, wu w.2 r (.inl (1, N, .inr (.inl g))))) (fun j u => (70, [(0, .ref r), (1, .long b), (3, .long l), (5, .int (nI j))], [], u)) ?_ ?_ 0 w (by omega) ⟨f, by rw [wu_same hr]⟩
    · rintro u ⟨g, eu⟩
      show PW _ _ _ _ _ _ (70, [(0, .ref r), (1, .long b), (3, .long l), (5, .int (nI N))], [], u)
      have hr1 : u.2 r = .inl (1, N, .inr (.inl g)) := w_s eu
      refine P_iload d_MD_reduces_70 rfl ?_
      refine P_aload_n d_MD_reduces_72 rfl ?_
      refine P_alen (v := nI N) d_MD_reduces_73 hr1 rfl ?_
      refine P_icmp_ge 91 d_MD_reduces_74 (by decide) (fun _ => ?_) (fun h => absurd (Int32.le_refl _) h)
      exact P_vret d_MD_reduces_91 rfl (le_b rfl) (le_b rfl) ⟨rfl, g, eu⟩
    · rintro j u hj ⟨g, eu⟩ kk
      show PW _ _ _ _ _ _ (70, [(0, .ref r), (1, .long b), (3, .long l), (5, .int (nI j))], [], u)
      have hr1 : u.2 r = .inl (1, N, .inr (.inl g)) := w_s eu
      refine P_iload d_MD_reduces_70 rfl ?_
      refine P_aload_n d_MD_reduces_72 rfl ?_
      refine P_alen (v := nI N) d_MD_reduces_73 hr1 rfl ?_
      refine P_icmp_ge 91 d_MD_reduces_74 (by decide) (fun h => absurd h (nI_ge hj (by omega))) (fun _ => ?_)
      refine P_aload_n d_MD_reduces_77 rfl ?_
      refine P_iload d_MD_reduces_78 rfl ?_
      refine P_dup2 d_MD_reduces_80 rfl rfl ?_
      refine P_lald (j := j) d_MD_reduces_81 hr1 (ix_nI (by omega)) (by omega) ?_
      refine P_lload_n d_MD_reduces_82 rfl ?_
      refine P_ldiv d_MD_reduces_83 hb ?_
      refine P_lastG (j := j) d_MD_reduces_84 hr1 (by omega) (ix_nI (by omega)) (by omega) (fun w1 e1 s1 n1 z1 => ?_)
      show PW _ _ _ _ _ _ (85, [(0, .ref r), (1, .long b), (3, .long l), (5, .int (nI j))], [], w1)
      refine P_iinc (v := nI (j + 1)) d_MD_reduces_85 (by decide) rfl (nI_succ j).symm rfl ?_
      refine P_goto 70 d_MD_reduces_88 (by decide) ?_
      exact kk w1 ⟨_, by rw [e1, eu]; exact congrArg (Prod.mk w.1) (wu_wu _ _ _ _)⟩
  refine P_lconst (v := 0) d_MD_reduces_0 (by decide) ?_
  refine P_lstore_n d_MD_reduces_1 (by decide) rfl ?_
  refine P_lconst (v := 0) d_MD_reduces_2 (by decide) ?_
  refine P_lstore_n d_MD_reduces_3 (by decide) rfl ?_
  refine P_iconst (v := 0) d_MD_reduces_4 (by decide) ?_
  refine P_istore d_MD_reduces_5 (by decide) rfl ?_
  refine PW_ind (σ := Int64 × Int64) N (fun _ _ => True) (fun j s => (7, [(0, .ref r), (1, .long s.1), (3, .long s.2), (5, .int (nI j))], [], w)) ?_ ?_ 0 (0, 0) (by omega) trivial
  · rintro ⟨b, l⟩ _
    show PW _ _ _ _ _ _ (7, [(0, .ref r), (1, .long b), (3, .long l), (5, .int (nI N))], [], w)
    refine P_iload d_MD_reduces_7 rfl ?_
    refine P_aload_n d_MD_reduces_9 rfl ?_
    refine P_alen (v := nI N) d_MD_reduces_10 hr rfl ?_
    refine P_icmp_ge 47 d_MD_reduces_11 (by decide) (fun _ => ?_) (fun h => absurd (Int32.le_refl _) h)
    refine P_lload_n d_MD_reduces_47 rfl ?_
    refine P_lconst (v := 0) d_MD_reduces_48 (by decide) ?_
    refine P_lcmp d_MD_reduces_49 ?_
    refine P_if_ne 54 d_MD_reduces_50 (by decide) (fun c1 => ?_) (fun c1 => ?_)
    · refine P_lload_n d_MD_reduces_54 rfl ?_
      refine P_lconst (v := 0) d_MD_reduces_55 (by decide) ?_
      refine P_lcmp d_MD_reduces_56 ?_
      refine P_if_ge 65 d_MD_reduces_57 (by decide) (fun c2 => ?_) (fun c2 => ?_)
      · refine P_lload_n d_MD_reduces_65 rfl ?_
        refine P_lstore_n d_MD_reduces_66 (by decide) rfl ?_
        exact K67 _ _ _ (cmp_ne c1)
      · refine P_lload_n d_MD_reduces_60 rfl ?_
        refine P_lneg d_MD_reduces_61 ?_
        refine P_goto 66 d_MD_reduces_62 (by decide) ?_
        refine P_lstore_n d_MD_reduces_66 (by decide) rfl ?_
        exact K67 _ _ _ (neg_ne (cmp_ne c1))
    · exact P_vret d_MD_reduces_53 rfl (le_b rfl) (le_b rfl) ⟨rfl, f, by rw [wu_same hr]⟩
  · rintro j ⟨b, l⟩ hj _ kk
    show PW _ _ _ _ _ _ (7, [(0, .ref r), (1, .long b), (3, .long l), (5, .int (nI j))], [], w)
    refine P_iload d_MD_reduces_7 rfl ?_
    refine P_aload_n d_MD_reduces_9 rfl ?_
    refine P_alen (v := nI N) d_MD_reduces_10 hr rfl ?_
    refine P_icmp_ge 47 d_MD_reduces_11 (by decide) (fun h => absurd h (nI_ge hj (by omega))) (fun _ => ?_)
    refine P_lload_n d_MD_reduces_14 rfl ?_
    refine P_aload_n d_MD_reduces_15 rfl ?_
    refine P_iload d_MD_reduces_16 rfl ?_
    refine P_lald (j := j) d_MD_reduces_18 hr (ix_nI (by omega)) (by omega) ?_
    refine P_callS (M := M_MD_reduces) (pc := 19) (as := [.long b, .long (f j)]) d_MD_reduces_19 co_MD_common L_MD_216 sm_MD_common (v_MD_common b (f j)) rfl ⟨by decide, by decide⟩ ⟨by decide, by decide⟩ (by exact le_b rfl) ?_ _ rfl
    rintro _ u ⟨⟨v1, rfl⟩, eu⟩
    subst u
    show PW _ _ _ _ _ _ (22, [(0, .ref r), (1, .long b), (3, .long l), (5, .int (nI j))], [.long v1], w)
    refine P_lstore_n d_MD_reduces_22 (by decide) rfl ?_
    refine P_aload_n d_MD_reduces_23 rfl ?_
    refine P_iload d_MD_reduces_24 rfl ?_
    refine P_lald (j := j) d_MD_reduces_26 hr (ix_nI (by omega)) (by omega) ?_
    refine P_lconst (v := 0) d_MD_reduces_27 (by decide) ?_
    refine P_lcmp d_MD_reduces_28 ?_
    refine P_if_eq 39 d_MD_reduces_29 (by decide) (fun c2 => ?_) (fun c2 => ?_)
    · refine P_lload_n d_MD_reduces_39 rfl ?_
      refine P_lstore_n d_MD_reduces_40 (by decide) rfl ?_
      refine P_iinc (v := nI (j + 1)) d_MD_reduces_41 (by decide) rfl (nI_succ j).symm rfl ?_
      refine P_goto 7 d_MD_reduces_44 (by decide) ?_
      exact kk (_, _) trivial
    · refine P_aload_n d_MD_reduces_32 rfl ?_
      refine P_iload d_MD_reduces_33 rfl ?_
      refine P_lald (j := j) d_MD_reduces_35 hr (ix_nI (by omega)) (by omega) ?_
      refine P_goto 40 d_MD_reduces_36 (by decide) ?_
      refine P_lstore_n d_MD_reduces_40 (by decide) rfl ?_
      refine P_iinc (v := nI (j + 1)) d_MD_reduces_41 (by decide) rfl (nI_succ j).symm rfl ?_
      refine P_goto 7 d_MD_reduces_44 (by decide) ?_
      exact kk (_, _) trivial
theorem v_MD_keeps {G : pG} {w : pW} (hM : Has mfL w.2) : PM G M_MD_keeps 0 0 0 [.ref 467] w (fun r w' => r = none ∧ w'.2 467 = .inr (9, [.int 0, .ref 468, .int 0, .ref 469, .ref 470, .int 0, .int 0, .ref 471, .ref 472, .ref 473, .int 1, .int 0, .int 0, .ref 474, .ref 475, .int 0, .int 0, .int 0, .int 0, .int 0, .int 0, .int 0, .int 0, .int 0, .int (-1), .ref 476, .ref 477, .ref 478, .ref 479, .ref 480, .ref 481, .ref 482, .ref 483, .int 0, .ref 484, .int 0, .ref 485, .int 0]) ∧ (∃ g, w'.2 473 = .inl (1, 2720, .inr (.inl g))) ∧ w'.1 = w.1 ∧ ∀ i, i ≠ 467 → i ≠ 473 → w'.2 i = w.2 i) := by
  refine PM_of pn_MD_keeps (le_b rfl) ?_
  show PW _ _ _ _ _ _ (0, [(0, .ref 467)], [], w)
  refine P_aload_n d_MD_keeps_0 rfl ?_
  refine P_getf (i := 10) d_MD_keeps_1 ok_Model (by decide) L_MD_71 (fa hM 18 rfl) rfl ?_
  refine P_bipush (v := 16) d_MD_keeps_4 (by decide) ?_
  refine P_icmp_ne 54 d_MD_keeps_6 (by decide) (fun _ => ?_) (fun h => absurd h (by decide))
  refine P_iconst (v := 0) d_MD_keeps_54 (by decide) ?_
  refine P_istore_n d_MD_keeps_55 (by decide) rfl ?_
  refine PW_ind (σ := pW) 170 (fun _ u => ∃ g : Nat → Int64, u = (w.1, wu w.2 473 (.inl (1, 2720, .inr (.inl g))))) (fun j u => (56, [(0, .ref 467), (1, .int (nI j))], [], u)) ?_ ?_ 0 w (by omega) ⟨_, by rw [wu_same (fa hM 5 rfl)]⟩
  · rintro u ⟨g, eu⟩
    show PW _ _ _ _ _ _ (56, [(0, .ref 467), (1, .int 170)], [], u)
    have n0 : ∀ q, q ≠ 473 → u.2 q = w.2 q := w_n eu
    have hp : u.2 473 = .inl (1, 2720, .inr (.inl g)) := w_s eu
    have z0 : u.1 = w.1 := w_z eu
    refine P_iload_n d_MD_keeps_56 rfl ?_
    refine P_sipush (v := 170) d_MD_keeps_57 (by decide) ?_
    refine P_icmp_ge 90 d_MD_keeps_60 (by decide) (fun _ => ?_) (fun h => absurd (by decide) h)
    refine P_aload_n d_MD_keeps_90 rfl ?_
    refine P_dup d_MD_keeps_91 rfl ?_
    refine P_getf (i := 10) d_MD_keeps_92 ok_Model (by decide) L_MD_71 ((n0 _ (by decide)).trans (fa hM 18 rfl)) rfl ?_
    refine P_iconst (v := 1) d_MD_keeps_95 (by decide) ?_
    refine P_iadd d_MD_keeps_96 ?_
    show PW _ _ _ _ _ _ (97, [(0, .ref 467), (1, .int 170)], [.int 1, .ref 467], u)
    refine P_putG (i := 10) d_MD_keeps_97 ok_Model (by decide) rfl L_MD_71 ((n0 _ (by decide)).trans (fa hM 18 rfl)) (fun _ => rfl) (fun _ => rfl) (fun w1 e1 s1 n1 z1 => ?_)
    show PW _ _ _ _ _ _ (100, [(0, .ref 467), (1, .int 170)], [], w1)
    exact P_vret d_MD_keeps_100 rfl (le_b rfl) (le_b rfl) ⟨rfl, s1, ⟨g, (n1 _ (by decide)).trans hp⟩, by rw [z1, z0], fun i h1 h2 => (n1 i h1).trans (n0 i h2)⟩
  · rintro j u hj ⟨g, eu⟩ kk
    show PW _ _ _ _ _ _ (56, [(0, .ref 467), (1, .int (nI j))], [], u)
    have n0 : ∀ q, q ≠ 473 → u.2 q = w.2 q := w_n eu
    have hp : u.2 473 = .inl (1, 2720, .inr (.inl g)) := w_s eu
    have z0 : u.1 = w.1 := w_z eu
    refine P_iload_n d_MD_keeps_56 rfl ?_
    refine P_sipush (v := 170) d_MD_keeps_57 (by decide) ?_
    refine P_icmp_ge 90 d_MD_keeps_60 (by decide) (fun h => absurd h (nI_ge hj (by decide))) (fun _ => ?_)
    refine P_aload_n d_MD_keeps_63 rfl ?_
    refine P_getf (i := 9) d_MD_keeps_64 ok_Model (by decide) L_MD_28 ((n0 _ (by decide)).trans (fa hM 18 rfl)) rfl ?_
    refine P_sipush (v := 170) d_MD_keeps_67 (by decide) ?_
    refine P_aload_n d_MD_keeps_70 rfl ?_
    refine P_getf (i := 10) d_MD_keeps_71 ok_Model (by decide) L_MD_71 ((n0 _ (by decide)).trans (fa hM 18 rfl)) rfl ?_
    refine P_imul d_MD_keeps_74 ?_
    show PW _ _ _ _ _ _ (75, [(0, .ref 467), (1, .int (nI j))], [.int 0, .ref 473], u)
    refine P_iload_n d_MD_keeps_75 rfl ?_
    refine P_iadd d_MD_keeps_76 ?_
    refine P_aload_n d_MD_keeps_77 rfl ?_
    refine P_getf (i := 7) d_MD_keeps_78 ok_Model (by decide) L_MD_21 ((n0 _ (by decide)).trans (fa hM 18 rfl)) rfl ?_
    refine P_iload_n d_MD_keeps_81 rfl ?_
    refine P_lald (j := j) d_MD_keeps_82 ((n0 _ (by decide)).trans (fa hM 3 rfl)) (ix_nI (by omega)) (by omega) ?_
    show PW _ _ _ _ _ _ (83, [(0, .ref 467), (1, .int (nI j))], [.long 0, .int (0 + (nI j)), .ref 473], u)
    refine P_lastG (j := j) d_MD_keeps_83 hp (by decide) (by rw [Int32.zero_add]; exact ix_nI (by omega)) (by omega) (fun w1 e1 s1 n1 z1 => ?_)
    show PW _ _ _ _ _ _ (84, [(0, .ref 467), (1, .int (nI j))], [], w1)
    refine P_iinc (v := nI (j + 1)) d_MD_keeps_84 (by decide) rfl (nI_succ j).symm rfl ?_
    refine P_goto 56 d_MD_keeps_87 (by decide) ?_
    exact kk w1 ⟨_, by rw [e1, eu]; exact congrArg (Prod.mk w.1) (wu_wu _ _ _ _)⟩
theorem v_MD_laysThree {G : pG} {w : pW} {fs : List Value} {f : Nat → Int64} (h467 : w.2 467 = .inr (9, fs)) (ht : fs[28]? = some (.ref 479)) (h479 : w.2 479 = .inl (1, 3, .inr (.inl f))) (x y z : Int64) : PM G M_MD_laysThree 3 0 0 [.ref 467, .long x, .long y, .long z] w (fun r w' => r = none ∧ ∃ g, w' = (w.1, wu w.2 479 (.inl (1, 3, .inr (.inl g))))) := by
  refine PM_of pn_MD_laysThree (le_b rfl) ?_
  show PW _ _ _ _ _ _ (0, [(0, .ref 467), (1, .long x), (3, .long y), (5, .long z)], [], w)
  refine P_aload_n d_MD_laysThree_0 rfl ?_
  refine P_getf (i := 28) d_MD_laysThree_1 ok_Model (by decide) L_MD_50 h467 ht ?_
  refine P_iconst (v := 0) d_MD_laysThree_4 (by decide) ?_
  refine P_lload_n d_MD_laysThree_5 rfl ?_
  refine P_lastG (j := 0) d_MD_laysThree_6 h479 (by decide) ⟨by decide, by decide⟩ (by decide) (fun w1 e1 s1 n1 z1 => ?_)
  show PW _ _ _ _ _ _ (7, [(0, .ref 467), (1, .long x), (3, .long y), (5, .long z)], [], w1)
  refine P_aload_n d_MD_laysThree_7 rfl ?_
  refine P_getf (i := 28) d_MD_laysThree_8 ok_Model (by decide) L_MD_50 ((n1 _ (by decide)).trans h467) ht ?_
  refine P_iconst (v := 1) d_MD_laysThree_11 (by decide) ?_
  refine P_lload_n d_MD_laysThree_12 rfl ?_
  refine P_lastG (j := 1) d_MD_laysThree_13 s1 (by decide) ⟨by decide, by decide⟩ (by decide) (fun w2 e2 s2 n2 z2 => ?_)
  show PW _ _ _ _ _ _ (14, [(0, .ref 467), (1, .long x), (3, .long y), (5, .long z)], [], w2)
  refine P_aload_n d_MD_laysThree_14 rfl ?_
  refine P_getf (i := 28) d_MD_laysThree_15 ok_Model (by decide) L_MD_50 ((n2 _ (by decide)).trans ((n1 _ (by decide)).trans h467)) ht ?_
  refine P_iconst (v := 2) d_MD_laysThree_18 (by decide) ?_
  refine P_lload d_MD_laysThree_19 rfl ?_
  refine P_lastG (j := 2) d_MD_laysThree_21 s2 (by decide) ⟨by decide, by decide⟩ (by decide) (fun w3 e3 s3 n3 z3 => ?_)
  show PW _ _ _ _ _ _ (22, [(0, .ref 467), (1, .long x), (3, .long y), (5, .long z)], [], w3)
  refine P_aload_n d_MD_laysThree_22 rfl ?_
  refine P_getf (i := 28) d_MD_laysThree_23 ok_Model (by decide) L_MD_50 ((n3 _ (by decide)).trans ((n2 _ (by decide)).trans ((n1 _ (by decide)).trans h467))) ht ?_
  refine P_callS (M := M_MD_laysThree) (pc := 26) (as := [.ref 479]) d_MD_laysThree_26 co_MD_reduces L_MD_220 sm_MD_reduces (v_MD_reduces s3 (by decide) (by decide) (by decide)) rfl ⟨by decide, by decide⟩ ⟨by decide, by decide⟩ (by exact le_b rfl) ?_ _ rfl
  rintro _ w4 ⟨rfl, g4, e4⟩
  have s4 : w4.2 479 = .inl (1, 3, .inr (.inl g4)) := w_s e4
  have n4 : ∀ q, q ≠ 479 → w4.2 q = w3.2 q := w_n e4
  have z4 : w4.1 = w3.1 := w_z e4
  show PW _ _ _ _ _ _ (29, [(0, .ref 467), (1, .long x), (3, .long y), (5, .long z)], [], w4)
  exact P_vret d_MD_laysThree_29 rfl (le_b rfl) (le_b rfl) ⟨rfl, g4, by rw [e4, e3, e2, e1]; exact congrArg (Prod.mk w.1) (by rw [wu_wu, wu_wu, wu_wu])⟩
theorem v_MD_putsPoint {G : pG} {w : pW} {fs : List Value} {f g : Nat → Int64} (h467 : w.2 467 = .inr (9, fs)) (ht : fs[28]? = some (.ref 479)) (h479 : w.2 479 = .inl (1, 3, .inr (.inl f))) (h471 : w.2 471 = .inl (1, 170, .inr (.inl g))) : PM G M_MD_putsPoint 0 0 0 [.ref 467, .ref 471, .int 0] w (fun r w' => r = none ∧ ∃ g, w' = (w.1, wu w.2 471 (.inl (1, 170, .inr (.inl g))))) := by
  refine PM_of pn_MD_putsPoint (le_b rfl) ?_
  show PW _ _ _ _ _ _ (0, [(0, .ref 467), (1, .ref 471), (2, .int 0)], [], w)
  refine P_iconst (v := 0) d_MD_putsPoint_0 (by decide) ?_
  refine P_istore_n d_MD_putsPoint_1 (by decide) rfl ?_
  refine P_iload_n d_MD_putsPoint_2 rfl ?_
  refine P_iconst (v := 3) d_MD_putsPoint_3 (by decide) ?_
  refine P_icmp_ge 30 d_MD_putsPoint_4 (by decide) (fun h => absurd h (by decide)) (fun _ => ?_)
  refine P_aload_n d_MD_putsPoint_7 rfl ?_
  refine P_sipush (v := 144) d_MD_putsPoint_8 (by decide) ?_
  refine P_iconst (v := 3) d_MD_putsPoint_11 (by decide) ?_
  refine P_iload_n d_MD_putsPoint_12 rfl ?_
  refine P_imul d_MD_putsPoint_13 ?_
  show PW _ _ _ _ _ _ (14, [(0, .ref 467), (1, .ref 471), (2, .int 0), (3, .int 0)], [.int 0, .int 144, .ref 471], w)
  refine P_iadd d_MD_putsPoint_14 ?_
  show PW _ _ _ _ _ _ (15, [(0, .ref 467), (1, .ref 471), (2, .int 0), (3, .int 0)], [.int 144, .ref 471], w)
  refine P_iload_n d_MD_putsPoint_15 rfl ?_
  refine P_iadd d_MD_putsPoint_16 ?_
  show PW _ _ _ _ _ _ (17, [(0, .ref 467), (1, .ref 471), (2, .int 0), (3, .int 0)], [.int 144, .ref 471], w)
  refine P_aload_n d_MD_putsPoint_17 rfl ?_
  refine P_getf (i := 28) d_MD_putsPoint_18 ok_Model (by decide) L_MD_50 h467 ht ?_
  refine P_iload_n d_MD_putsPoint_21 rfl ?_
  refine P_lald (j := 0) d_MD_putsPoint_22 h479 ⟨by decide, by decide⟩ (by decide) ?_
  refine P_lastG (j := 144) d_MD_putsPoint_23 h471 (by decide) ⟨by decide, by decide⟩ (by decide) (fun w1 e1 s1 n1 z1 => ?_)
  show PW _ _ _ _ _ _ (24, [(0, .ref 467), (1, .ref 471), (2, .int 0), (3, .int 0)], [], w1)
  refine P_iinc (v := 1) d_MD_putsPoint_24 (by decide) rfl (by decide) rfl ?_
  refine P_goto 2 d_MD_putsPoint_27 (by decide) ?_
  refine P_iload_n d_MD_putsPoint_2 rfl ?_
  refine P_iconst (v := 3) d_MD_putsPoint_3 (by decide) ?_
  refine P_icmp_ge 30 d_MD_putsPoint_4 (by decide) (fun h => absurd h (by decide)) (fun _ => ?_)
  refine P_aload_n d_MD_putsPoint_7 rfl ?_
  refine P_sipush (v := 144) d_MD_putsPoint_8 (by decide) ?_
  refine P_iconst (v := 3) d_MD_putsPoint_11 (by decide) ?_
  refine P_iload_n d_MD_putsPoint_12 rfl ?_
  refine P_imul d_MD_putsPoint_13 ?_
  show PW _ _ _ _ _ _ (14, [(0, .ref 467), (1, .ref 471), (2, .int 0), (3, .int 1)], [.int 0, .int 144, .ref 471], w1)
  refine P_iadd d_MD_putsPoint_14 ?_
  show PW _ _ _ _ _ _ (15, [(0, .ref 467), (1, .ref 471), (2, .int 0), (3, .int 1)], [.int 144, .ref 471], w1)
  refine P_iload_n d_MD_putsPoint_15 rfl ?_
  refine P_iadd d_MD_putsPoint_16 ?_
  show PW _ _ _ _ _ _ (17, [(0, .ref 467), (1, .ref 471), (2, .int 0), (3, .int 1)], [.int 145, .ref 471], w1)
  refine P_aload_n d_MD_putsPoint_17 rfl ?_
  refine P_getf (i := 28) d_MD_putsPoint_18 ok_Model (by decide) L_MD_50 ((n1 _ (by decide)).trans h467) ht ?_
  refine P_iload_n d_MD_putsPoint_21 rfl ?_
  refine P_lald (j := 1) d_MD_putsPoint_22 ((n1 _ (by decide)).trans h479) ⟨by decide, by decide⟩ (by decide) ?_
  refine P_lastG (j := 145) d_MD_putsPoint_23 s1 (by decide) ⟨by decide, by decide⟩ (by decide) (fun w2 e2 s2 n2 z2 => ?_)
  show PW _ _ _ _ _ _ (24, [(0, .ref 467), (1, .ref 471), (2, .int 0), (3, .int 1)], [], w2)
  refine P_iinc (v := 2) d_MD_putsPoint_24 (by decide) rfl (by decide) rfl ?_
  refine P_goto 2 d_MD_putsPoint_27 (by decide) ?_
  refine P_iload_n d_MD_putsPoint_2 rfl ?_
  refine P_iconst (v := 3) d_MD_putsPoint_3 (by decide) ?_
  refine P_icmp_ge 30 d_MD_putsPoint_4 (by decide) (fun h => absurd h (by decide)) (fun _ => ?_)
  refine P_aload_n d_MD_putsPoint_7 rfl ?_
  refine P_sipush (v := 144) d_MD_putsPoint_8 (by decide) ?_
  refine P_iconst (v := 3) d_MD_putsPoint_11 (by decide) ?_
  refine P_iload_n d_MD_putsPoint_12 rfl ?_
  refine P_imul d_MD_putsPoint_13 ?_
  show PW _ _ _ _ _ _ (14, [(0, .ref 467), (1, .ref 471), (2, .int 0), (3, .int 2)], [.int 0, .int 144, .ref 471], w2)
  refine P_iadd d_MD_putsPoint_14 ?_
  show PW _ _ _ _ _ _ (15, [(0, .ref 467), (1, .ref 471), (2, .int 0), (3, .int 2)], [.int 144, .ref 471], w2)
  refine P_iload_n d_MD_putsPoint_15 rfl ?_
  refine P_iadd d_MD_putsPoint_16 ?_
  show PW _ _ _ _ _ _ (17, [(0, .ref 467), (1, .ref 471), (2, .int 0), (3, .int 2)], [.int 146, .ref 471], w2)
  refine P_aload_n d_MD_putsPoint_17 rfl ?_
  refine P_getf (i := 28) d_MD_putsPoint_18 ok_Model (by decide) L_MD_50 ((n2 _ (by decide)).trans ((n1 _ (by decide)).trans h467)) ht ?_
  refine P_iload_n d_MD_putsPoint_21 rfl ?_
  refine P_lald (j := 2) d_MD_putsPoint_22 ((n2 _ (by decide)).trans ((n1 _ (by decide)).trans h479)) ⟨by decide, by decide⟩ (by decide) ?_
  refine P_lastG (j := 146) d_MD_putsPoint_23 s2 (by decide) ⟨by decide, by decide⟩ (by decide) (fun w3 e3 s3 n3 z3 => ?_)
  show PW _ _ _ _ _ _ (24, [(0, .ref 467), (1, .ref 471), (2, .int 0), (3, .int 2)], [], w3)
  refine P_iinc (v := 3) d_MD_putsPoint_24 (by decide) rfl (by decide) rfl ?_
  refine P_goto 2 d_MD_putsPoint_27 (by decide) ?_
  refine P_iload_n d_MD_putsPoint_2 rfl ?_
  refine P_iconst (v := 3) d_MD_putsPoint_3 (by decide) ?_
  refine P_icmp_ge 30 d_MD_putsPoint_4 (by decide) (fun _ => ?_) (fun h => absurd (by decide) h)
  exact P_vret d_MD_putsPoint_30 rfl (le_b rfl) (le_b rfl) ⟨rfl, _, by rw [e3, e2, e1]; exact congrArg (Prod.mk w.1) (wu_3 _ _ _ _ _)⟩
theorem v_MD_tell {G : pG} {w : pW} (hM : Has mfL w.2) (x y z : Int32) : PM G M_MD_tell 4 0 0 [.ref 467, .int x, .int y, .int z] w (fun r w' => r = some (.int (tellF x y z)) ∧ True) := by
  refine PM_of pn_MD_tell (le_b rfl) ?_
  show PW _ _ _ _ _ _ (0, [(0, .ref 467), (1, .int x), (2, .int y), (3, .int z)], [], w)
  refine P_aload_n d_MD_tell_0 rfl ?_
  refine P_iconst (v := 0) d_MD_tell_1 (by decide) ?_
  refine P_putS (i := 0) d_MD_tell_2 ok_Model (by decide) rfl L_MD_74 (fa hM 18 rfl) (fun _ => rfl) (fun _ => rfl) rfl ?_
  refine P_iload_n d_MD_tell_5 rfl ?_
  refine P_callS (M := M_MD_tell) (pc := 6) (as := [.int x]) d_MD_tell_6 co_MD_isEdge L_MD_289 sm_MD_isEdge (v_MD_isEdge x) rfl ⟨by decide, by decide⟩ ⟨by decide, by decide⟩ (by exact le_b rfl) ?_ _ rfl
  rintro _ u ⟨rfl, eu⟩
  subst u
  show PW _ _ _ _ _ _ (9, [(0, .ref 467), (1, .int x), (2, .int y), (3, .int z)], [.int (bi (edge x))], w)
  refine P_if_eq 26 d_MD_tell_9 (by decide) (fun c1 => ?_) (fun c1 => ?_)
  · refine P_iconst (v := (-1)) d_MD_tell_26 (by decide) ?_
    exact P_iret d_MD_tell_27 rfl (le_b rfl) (le_b rfl) ⟨by unfold tellF; rw [show edge3 x y z = false by simp [edge3, bi_0 c1]]; simp [some3], trivial⟩
  · refine P_iload_n d_MD_tell_12 rfl ?_
    refine P_callS (M := M_MD_tell) (pc := 13) (as := [.int y]) d_MD_tell_13 co_MD_isEdge L_MD_289 sm_MD_isEdge (v_MD_isEdge y) rfl ⟨by decide, by decide⟩ ⟨by decide, by decide⟩ (by exact le_b rfl) ?_ _ rfl
    rintro _ u ⟨rfl, eu⟩
    subst u
    show PW _ _ _ _ _ _ (16, [(0, .ref 467), (1, .int x), (2, .int y), (3, .int z)], [.int (bi (edge y))], w)
    refine P_if_eq 26 d_MD_tell_16 (by decide) (fun c2 => ?_) (fun c2 => ?_)
    · refine P_iconst (v := (-1)) d_MD_tell_26 (by decide) ?_
      exact P_iret d_MD_tell_27 rfl (le_b rfl) (le_b rfl) ⟨by unfold tellF; rw [show edge3 x y z = false by simp [edge3, bi_1 c1, bi_0 c2]]; simp [some3], trivial⟩
    · refine P_iload_n d_MD_tell_19 rfl ?_
      refine P_callS (M := M_MD_tell) (pc := 20) (as := [.int z]) d_MD_tell_20 co_MD_isEdge L_MD_289 sm_MD_isEdge (v_MD_isEdge z) rfl ⟨by decide, by decide⟩ ⟨by decide, by decide⟩ (by exact le_b rfl) ?_ _ rfl
      rintro _ u ⟨rfl, eu⟩
      subst u
      show PW _ _ _ _ _ _ (23, [(0, .ref 467), (1, .int x), (2, .int y), (3, .int z)], [.int (bi (edge z))], w)
      refine P_if_ne 28 d_MD_tell_23 (by decide) (fun c3 => ?_) (fun c3 => ?_)
      · refine P_aload_n d_MD_tell_28 rfl ?_
        refine P_getf (i := 7) d_MD_tell_29 ok_Model (by decide) L_MD_21 (fa hM 18 rfl) rfl ?_
        refine P_sipush (v := 169) d_MD_tell_32 (by decide) ?_
        refine P_lald (j := 169) d_MD_tell_35 (fa hM 3 rfl) ⟨by decide, by decide⟩ (by decide) ?_
        show PW _ _ _ _ _ _ (36, [(0, .ref 467), (1, .int x), (2, .int y), (3, .int z)], [.long 0], w)
        refine P_ldc2 (v := 8) d_MD_tell_36 L_MD_292 ?_
        refine P_lcmp d_MD_tell_39 ?_
        refine P_if_eq 55 d_MD_tell_40 (by decide) (fun h => absurd h (by decide)) (fun _ => ?_)
        refine P_iload_n d_MD_tell_43 rfl ?_
        refine P_if_ne 58 d_MD_tell_44 (by decide) (fun c4 => ?_) (fun c4 => ?_)
        · refine P_aload_n d_MD_tell_58 rfl ?_
          refine P_callV (M := M_MD_tell) (pc := 59) (as := []) (b := 467) d_MD_tell_59 co_MD_keeps ok_Model (fa hM 18 rfl) L_MD_268 im_MD_keeps se_MD_keeps (v_MD_keeps hM) rfl ⟨by decide, by decide⟩ ⟨by decide, by decide⟩ (by exact le_b rfl) ?_ _ rfl
          rintro _ w5 ⟨rfl, s5, ⟨g5, t5⟩, z5, n5⟩
          show PW _ _ _ _ _ _ (62, [(0, .ref 467), (1, .int x), (2, .int y), (3, .int z)], [], w5)
          refine P_aload_n d_MD_tell_62 rfl ?_
          refine P_getf (i := 7) d_MD_tell_63 ok_Model (by decide) L_MD_21 s5 rfl ?_
          refine P_sipush (v := 169) d_MD_tell_66 (by decide) ?_
          refine P_lald (j := 169) d_MD_tell_69 ((n5 _ (by decide) (by decide)).trans (fa hM 3 rfl)) ⟨by decide, by decide⟩ (by decide) ?_
          show PW _ _ _ _ _ _ (70, [(0, .ref 467), (1, .int x), (2, .int y), (3, .int z)], [.long 0], w5)
          refine P_l2i d_MD_tell_70 ?_
          show PW _ _ _ _ _ _ (71, [(0, .ref 467), (1, .int x), (2, .int y), (3, .int z)], [.int 0], w5)
          refine P_istore d_MD_tell_71 (by decide) rfl ?_
          refine P_aload_n d_MD_tell_73 rfl ?_
          refine P_iload_n d_MD_tell_74 rfl ?_
          refine P_i2l d_MD_tell_75 ?_
          refine P_iload_n d_MD_tell_76 rfl ?_
          refine P_i2l d_MD_tell_77 ?_
          refine P_iload_n d_MD_tell_78 rfl ?_
          refine P_i2l d_MD_tell_79 ?_
          refine P_callV (M := M_MD_tell) (pc := 80) (as := [.long x.toInt64, .long y.toInt64, .long z.toInt64]) (b := 467) d_MD_tell_80 co_MD_laysThree ok_Model s5 L_MD_179 im_MD_laysThree se_MD_laysThree (v_MD_laysThree s5 rfl ((n5 _ (by decide) (by decide)).trans (fa hM 11 rfl)) x.toInt64 y.toInt64 z.toInt64) rfl ⟨by decide, by decide⟩ ⟨by decide, by decide⟩ (by exact le_b rfl) ?_ _ rfl
          rintro _ w6 ⟨rfl, g6, e6⟩
          have s6 : w6.2 479 = .inl (1, 3, .inr (.inl g6)) := w_s e6
          have n6 : ∀ q, q ≠ 479 → w6.2 q = w5.2 q := w_n e6
          have z6 : w6.1 = w5.1 := w_z e6
          show PW _ _ _ _ _ _ (83, [(0, .ref 467), (1, .int x), (2, .int y), (3, .int z), (4, .int 0)], [], w6)
          refine P_aload_n d_MD_tell_83 rfl ?_
          refine P_aload_n d_MD_tell_84 rfl ?_
          refine P_getf (i := 7) d_MD_tell_85 ok_Model (by decide) L_MD_21 ((n6 _ (by decide)).trans s5) rfl ?_
          refine P_iload d_MD_tell_88 rfl ?_
          refine P_callV (M := M_MD_tell) (pc := 90) (as := [.ref 471, .int 0]) (b := 467) d_MD_tell_90 co_MD_putsPoint ok_Model ((n6 _ (by decide)).trans s5) L_MD_183 im_MD_putsPoint se_MD_putsPoint (v_MD_putsPoint ((n6 _ (by decide)).trans s5) rfl s6 ((n6 _ (by decide)).trans ((n5 _ (by decide) (by decide)).trans (fa hM 3 rfl)))) rfl ⟨by decide, by decide⟩ ⟨by decide, by decide⟩ (by exact le_b rfl) ?_ _ rfl
          rintro _ w7 ⟨rfl, g7, e7⟩
          have s7 : w7.2 471 = .inl (1, 170, .inr (.inl g7)) := w_s e7
          have n7 : ∀ q, q ≠ 471 → w7.2 q = w6.2 q := w_n e7
          have z7 : w7.1 = w6.1 := w_z e7
          show PW _ _ _ _ _ _ (93, [(0, .ref 467), (1, .int x), (2, .int y), (3, .int z), (4, .int 0)], [], w7)
          refine P_aload_n d_MD_tell_93 rfl ?_
          refine P_getf (i := 7) d_MD_tell_94 ok_Model (by decide) L_MD_21 ((n7 _ (by decide)).trans ((n6 _ (by decide)).trans s5)) rfl ?_
          refine P_sipush (v := 169) d_MD_tell_97 (by decide) ?_
          refine P_dup2 d_MD_tell_100 rfl rfl ?_
          refine P_lald (j := 169) d_MD_tell_101 s7 ⟨by decide, by decide⟩ (by decide) ?_
          refine P_lconst (v := 1) d_MD_tell_102 (by decide) ?_
          refine P_ladd d_MD_tell_103 ?_
          refine P_lastG (j := 169) d_MD_tell_104 s7 (by decide) ⟨by decide, by decide⟩ (by decide) (fun w8 e8 s8 n8 z8 => ?_)
          show PW _ _ _ _ _ _ (105, [(0, .ref 467), (1, .int x), (2, .int y), (3, .int z), (4, .int 0)], [], w8)
          refine P_iload d_MD_tell_105 rfl ?_
          exact P_iret d_MD_tell_107 rfl (le_b rfl) (le_b rfl) ⟨by unfold tellF; rw [show edge3 x y z = true by simp [edge3, bi_1 c1, bi_1 c2, bi_1 c3]]; simp [some3, c4], trivial⟩
        · refine P_iload_n d_MD_tell_47 rfl ?_
          refine P_if_ne 58 d_MD_tell_48 (by decide) (fun c9 => ?_) (fun c9 => ?_)
          · refine P_aload_n d_MD_tell_58 rfl ?_
            refine P_callV (M := M_MD_tell) (pc := 59) (as := []) (b := 467) d_MD_tell_59 co_MD_keeps ok_Model (fa hM 18 rfl) L_MD_268 im_MD_keeps se_MD_keeps (v_MD_keeps hM) rfl ⟨by decide, by decide⟩ ⟨by decide, by decide⟩ (by exact le_b rfl) ?_ _ rfl
            rintro _ w10 ⟨rfl, s10, ⟨g10, t10⟩, z10, n10⟩
            show PW _ _ _ _ _ _ (62, [(0, .ref 467), (1, .int x), (2, .int y), (3, .int z)], [], w10)
            refine P_aload_n d_MD_tell_62 rfl ?_
            refine P_getf (i := 7) d_MD_tell_63 ok_Model (by decide) L_MD_21 s10 rfl ?_
            refine P_sipush (v := 169) d_MD_tell_66 (by decide) ?_
            refine P_lald (j := 169) d_MD_tell_69 ((n10 _ (by decide) (by decide)).trans (fa hM 3 rfl)) ⟨by decide, by decide⟩ (by decide) ?_
            show PW _ _ _ _ _ _ (70, [(0, .ref 467), (1, .int x), (2, .int y), (3, .int z)], [.long 0], w10)
            refine P_l2i d_MD_tell_70 ?_
            show PW _ _ _ _ _ _ (71, [(0, .ref 467), (1, .int x), (2, .int y), (3, .int z)], [.int 0], w10)
            refine P_istore d_MD_tell_71 (by decide) rfl ?_
            refine P_aload_n d_MD_tell_73 rfl ?_
            refine P_iload_n d_MD_tell_74 rfl ?_
            refine P_i2l d_MD_tell_75 ?_
            refine P_iload_n d_MD_tell_76 rfl ?_
            refine P_i2l d_MD_tell_77 ?_
            refine P_iload_n d_MD_tell_78 rfl ?_
            refine P_i2l d_MD_tell_79 ?_
            refine P_callV (M := M_MD_tell) (pc := 80) (as := [.long x.toInt64, .long y.toInt64, .long z.toInt64]) (b := 467) d_MD_tell_80 co_MD_laysThree ok_Model s10 L_MD_179 im_MD_laysThree se_MD_laysThree (v_MD_laysThree s10 rfl ((n10 _ (by decide) (by decide)).trans (fa hM 11 rfl)) x.toInt64 y.toInt64 z.toInt64) rfl ⟨by decide, by decide⟩ ⟨by decide, by decide⟩ (by exact le_b rfl) ?_ _ rfl
            rintro _ w11 ⟨rfl, g11, e11⟩
            have s11 : w11.2 479 = .inl (1, 3, .inr (.inl g11)) := w_s e11
            have n11 : ∀ q, q ≠ 479 → w11.2 q = w10.2 q := w_n e11
            have z11 : w11.1 = w10.1 := w_z e11
            show PW _ _ _ _ _ _ (83, [(0, .ref 467), (1, .int x), (2, .int y), (3, .int z), (4, .int 0)], [], w11)
            refine P_aload_n d_MD_tell_83 rfl ?_
            refine P_aload_n d_MD_tell_84 rfl ?_
            refine P_getf (i := 7) d_MD_tell_85 ok_Model (by decide) L_MD_21 ((n11 _ (by decide)).trans s10) rfl ?_
            refine P_iload d_MD_tell_88 rfl ?_
            refine P_callV (M := M_MD_tell) (pc := 90) (as := [.ref 471, .int 0]) (b := 467) d_MD_tell_90 co_MD_putsPoint ok_Model ((n11 _ (by decide)).trans s10) L_MD_183 im_MD_putsPoint se_MD_putsPoint (v_MD_putsPoint ((n11 _ (by decide)).trans s10) rfl s11 ((n11 _ (by decide)).trans ((n10 _ (by decide) (by decide)).trans (fa hM 3 rfl)))) rfl ⟨by decide, by decide⟩ ⟨by decide, by decide⟩ (by exact le_b rfl) ?_ _ rfl
            rintro _ w12 ⟨rfl, g12, e12⟩
            have s12 : w12.2 471 = .inl (1, 170, .inr (.inl g12)) := w_s e12
            have n12 : ∀ q, q ≠ 471 → w12.2 q = w11.2 q := w_n e12
            have z12 : w12.1 = w11.1 := w_z e12
            show PW _ _ _ _ _ _ (93, [(0, .ref 467), (1, .int x), (2, .int y), (3, .int z), (4, .int 0)], [], w12)
            refine P_aload_n d_MD_tell_93 rfl ?_
            refine P_getf (i := 7) d_MD_tell_94 ok_Model (by decide) L_MD_21 ((n12 _ (by decide)).trans ((n11 _ (by decide)).trans s10)) rfl ?_
            refine P_sipush (v := 169) d_MD_tell_97 (by decide) ?_
            refine P_dup2 d_MD_tell_100 rfl rfl ?_
            refine P_lald (j := 169) d_MD_tell_101 s12 ⟨by decide, by decide⟩ (by decide) ?_
            refine P_lconst (v := 1) d_MD_tell_102 (by decide) ?_
            refine P_ladd d_MD_tell_103 ?_
            refine P_lastG (j := 169) d_MD_tell_104 s12 (by decide) ⟨by decide, by decide⟩ (by decide) (fun w13 e13 s13 n13 z13 => ?_)
            show PW _ _ _ _ _ _ (105, [(0, .ref 467), (1, .int x), (2, .int y), (3, .int z), (4, .int 0)], [], w13)
            refine P_iload d_MD_tell_105 rfl ?_
            exact P_iret d_MD_tell_107 rfl (le_b rfl) (le_b rfl) ⟨by unfold tellF; rw [show edge3 x y z = true by simp [edge3, bi_1 c1, bi_1 c2, bi_1 c3]]; simp [some3, c4, c9], trivial⟩
          · refine P_iload_n d_MD_tell_51 rfl ?_
            refine P_if_ne 58 d_MD_tell_52 (by decide) (fun c14 => ?_) (fun c14 => ?_)
            · refine P_aload_n d_MD_tell_58 rfl ?_
              refine P_callV (M := M_MD_tell) (pc := 59) (as := []) (b := 467) d_MD_tell_59 co_MD_keeps ok_Model (fa hM 18 rfl) L_MD_268 im_MD_keeps se_MD_keeps (v_MD_keeps hM) rfl ⟨by decide, by decide⟩ ⟨by decide, by decide⟩ (by exact le_b rfl) ?_ _ rfl
              rintro _ w15 ⟨rfl, s15, ⟨g15, t15⟩, z15, n15⟩
              show PW _ _ _ _ _ _ (62, [(0, .ref 467), (1, .int x), (2, .int y), (3, .int z)], [], w15)
              refine P_aload_n d_MD_tell_62 rfl ?_
              refine P_getf (i := 7) d_MD_tell_63 ok_Model (by decide) L_MD_21 s15 rfl ?_
              refine P_sipush (v := 169) d_MD_tell_66 (by decide) ?_
              refine P_lald (j := 169) d_MD_tell_69 ((n15 _ (by decide) (by decide)).trans (fa hM 3 rfl)) ⟨by decide, by decide⟩ (by decide) ?_
              show PW _ _ _ _ _ _ (70, [(0, .ref 467), (1, .int x), (2, .int y), (3, .int z)], [.long 0], w15)
              refine P_l2i d_MD_tell_70 ?_
              show PW _ _ _ _ _ _ (71, [(0, .ref 467), (1, .int x), (2, .int y), (3, .int z)], [.int 0], w15)
              refine P_istore d_MD_tell_71 (by decide) rfl ?_
              refine P_aload_n d_MD_tell_73 rfl ?_
              refine P_iload_n d_MD_tell_74 rfl ?_
              refine P_i2l d_MD_tell_75 ?_
              refine P_iload_n d_MD_tell_76 rfl ?_
              refine P_i2l d_MD_tell_77 ?_
              refine P_iload_n d_MD_tell_78 rfl ?_
              refine P_i2l d_MD_tell_79 ?_
              refine P_callV (M := M_MD_tell) (pc := 80) (as := [.long x.toInt64, .long y.toInt64, .long z.toInt64]) (b := 467) d_MD_tell_80 co_MD_laysThree ok_Model s15 L_MD_179 im_MD_laysThree se_MD_laysThree (v_MD_laysThree s15 rfl ((n15 _ (by decide) (by decide)).trans (fa hM 11 rfl)) x.toInt64 y.toInt64 z.toInt64) rfl ⟨by decide, by decide⟩ ⟨by decide, by decide⟩ (by exact le_b rfl) ?_ _ rfl
              rintro _ w16 ⟨rfl, g16, e16⟩
              have s16 : w16.2 479 = .inl (1, 3, .inr (.inl g16)) := w_s e16
              have n16 : ∀ q, q ≠ 479 → w16.2 q = w15.2 q := w_n e16
              have z16 : w16.1 = w15.1 := w_z e16
              show PW _ _ _ _ _ _ (83, [(0, .ref 467), (1, .int x), (2, .int y), (3, .int z), (4, .int 0)], [], w16)
              refine P_aload_n d_MD_tell_83 rfl ?_
              refine P_aload_n d_MD_tell_84 rfl ?_
              refine P_getf (i := 7) d_MD_tell_85 ok_Model (by decide) L_MD_21 ((n16 _ (by decide)).trans s15) rfl ?_
              refine P_iload d_MD_tell_88 rfl ?_
              refine P_callV (M := M_MD_tell) (pc := 90) (as := [.ref 471, .int 0]) (b := 467) d_MD_tell_90 co_MD_putsPoint ok_Model ((n16 _ (by decide)).trans s15) L_MD_183 im_MD_putsPoint se_MD_putsPoint (v_MD_putsPoint ((n16 _ (by decide)).trans s15) rfl s16 ((n16 _ (by decide)).trans ((n15 _ (by decide) (by decide)).trans (fa hM 3 rfl)))) rfl ⟨by decide, by decide⟩ ⟨by decide, by decide⟩ (by exact le_b rfl) ?_ _ rfl
              rintro _ w17 ⟨rfl, g17, e17⟩
              have s17 : w17.2 471 = .inl (1, 170, .inr (.inl g17)) := w_s e17
              have n17 : ∀ q, q ≠ 471 → w17.2 q = w16.2 q := w_n e17
              have z17 : w17.1 = w16.1 := w_z e17
              show PW _ _ _ _ _ _ (93, [(0, .ref 467), (1, .int x), (2, .int y), (3, .int z), (4, .int 0)], [], w17)
              refine P_aload_n d_MD_tell_93 rfl ?_
              refine P_getf (i := 7) d_MD_tell_94 ok_Model (by decide) L_MD_21 ((n17 _ (by decide)).trans ((n16 _ (by decide)).trans s15)) rfl ?_
              refine P_sipush (v := 169) d_MD_tell_97 (by decide) ?_
              refine P_dup2 d_MD_tell_100 rfl rfl ?_
              refine P_lald (j := 169) d_MD_tell_101 s17 ⟨by decide, by decide⟩ (by decide) ?_
              refine P_lconst (v := 1) d_MD_tell_102 (by decide) ?_
              refine P_ladd d_MD_tell_103 ?_
              refine P_lastG (j := 169) d_MD_tell_104 s17 (by decide) ⟨by decide, by decide⟩ (by decide) (fun w18 e18 s18 n18 z18 => ?_)
              show PW _ _ _ _ _ _ (105, [(0, .ref 467), (1, .int x), (2, .int y), (3, .int z), (4, .int 0)], [], w18)
              refine P_iload d_MD_tell_105 rfl ?_
              exact P_iret d_MD_tell_107 rfl (le_b rfl) (le_b rfl) ⟨by unfold tellF; rw [show edge3 x y z = true by simp [edge3, bi_1 c1, bi_1 c2, bi_1 c3]]; simp [some3, c4, c9, c14], trivial⟩
            · refine P_bipush (v := (-2)) d_MD_tell_55 (by decide) ?_
              exact P_iret d_MD_tell_57 rfl (le_b rfl) (le_b rfl) ⟨by unfold tellF; rw [show edge3 x y z = true by simp [edge3, bi_1 c1, bi_1 c2, bi_1 c3]]; simp [some3, c4, c9, c14], trivial⟩
      · refine P_iconst (v := (-1)) d_MD_tell_26 (by decide) ?_
        exact P_iret d_MD_tell_27 rfl (le_b rfl) (le_b rfl) ⟨by unfold tellF; rw [show edge3 x y z = false by simp [edge3, bi_1 c1, bi_1 c2, bi_0 c3]]; simp [some3], trivial⟩
theorem v_Past_forget {G : pG} {w : pW} (h169 : w.2 169 = .inr (5, [.ref 170, .ref 171, .ref 172, .int 0, .int 0])) : PM G M_Past_forget 0 0 0 [.ref 169] w (fun r w' => r = none ∧ w' = w) := by
  refine PM_of pn_Past_forget (le_b rfl) ?_
  show PW _ _ _ _ _ _ (0, [(0, .ref 169)], [], w)
  refine P_aload_n d_Past_forget_0 rfl ?_
  refine P_iconst (v := 0) d_Past_forget_1 (by decide) ?_
  refine P_putS (i := 4) d_Past_forget_2 ok_Past (by decide) rfl L_Past_23 h169 (fun _ => rfl) (fun _ => rfl) rfl ?_
  exact P_vret d_Past_forget_5 rfl (le_b rfl) (le_b rfl) ⟨rfl, rfl⟩
theorem z_CM_text_in {G : pG} {w : pW} (hC : Has cfL w.2) : PM G M_CM_text 2 0 0 [.ref 0, .int 0] w (fun r w' => r = some (.int 0) ∧ w'.1 = w.1 ∧ ∀ i, 467 ≤ i → w'.2 i = w.2 i) := by
  refine PM_of pn_CM_text (le_b rfl) ?_
  show PW _ _ _ _ _ _ (0, [(0, .ref 0), (1, .int 0)], [], w)
  refine P_iload_n d_CM_text_0 rfl ?_
  refine P_if_lt 15 d_CM_text_1 (by decide) (fun h => absurd h (by decide)) (fun _ => ?_)
  refine P_iload_n d_CM_text_4 rfl ?_
  refine P_aload_n d_CM_text_5 rfl ?_
  refine P_getf (i := 2) d_CM_text_6 ok_CM (by decide) L_CM_24 (fa hC 28 rfl) rfl ?_
  refine P_getfN (i := 1) d_CM_text_9 ok_Tape (by decide) L_CM_107 (fa hC 1 rfl) rfl ?_
  refine P_icmp_le 18 d_CM_text_12 (by decide) (fun _ => ?_) (fun h => absurd (by decide) h)
  refine P_aload_n d_CM_text_18 rfl ?_
  refine P_getf (i := 3) d_CM_text_19 ok_CM (by decide) L_CM_40 (fa hC 28 rfl) rfl ?_
  refine P_iload_n d_CM_text_22 rfl ?_
  refine P_aload_n d_CM_text_23 rfl ?_
  refine P_getf (i := 1) d_CM_text_24 ok_CM (by decide) L_CM_18 (fa hC 28 rfl) rfl ?_
  refine P_callV (M := M_CM_text) (pc := 27) (as := [.int 0, .ref 77]) (b := 164) d_CM_text_27 co_Reader_read ok_Reader (fa hC 9 rfl) L_CM_111 im_Reader_read se_Reader_read (z_Reader_read hC) rfl ⟨by decide, by decide⟩ ⟨by decide, by decide⟩ (by exact le_b rfl) ?_ _ rfl
  rintro _ u ⟨rfl, eu⟩
  subst u
  show PW _ _ _ _ _ _ (30, [(0, .ref 0), (1, .int 0)], [.int 1], w)
  refine P_istore_n d_CM_text_30 (by decide) rfl ?_
  refine P_aload_n d_CM_text_31 rfl ?_
  refine P_getf (i := 2) d_CM_text_32 ok_CM (by decide) L_CM_24 (fa hC 28 rfl) rfl ?_
  refine P_iconst (v := 0) d_CM_text_35 (by decide) ?_
  refine P_putNS (i := 1) d_CM_text_36 ok_Tape (by decide) rfl L_CM_107 (fa hC 1 rfl) (fun _ => rfl) (fun _ => rfl) rfl ?_
  refine P_iload_n d_CM_text_39 rfl ?_
  refine P_if_ne 45 d_CM_text_40 (by decide) (fun _ => ?_) (fun h => absurd h (by decide))
  refine P_aload_n d_CM_text_45 rfl ?_
  refine P_getf (i := 0) d_CM_text_46 ok_CM (by decide) L_CM_12 (fa hC 28 rfl) rfl ?_
  refine P_astore_n d_CM_text_49 (by decide) rfl ?_
  refine P_aload_n d_CM_text_50 rfl ?_
  refine P_aload_n d_CM_text_51 rfl ?_
  refine P_getf (i := 1) d_CM_text_52 ok_CM (by decide) L_CM_18 (fa hC 28 rfl) rfl ?_
  refine P_putG (i := 0) d_CM_text_55 ok_CM (by decide) rfl L_CM_12 (fa hC 28 rfl) (fun _ => rfl) (fun _ => rfl) (fun w1 e1 s1 n1 z1 => ?_)
  show PW _ _ _ _ _ _ (58, [(0, .ref 0), (1, .int 0), (2, .int 1), (3, .ref 1)], [], w1)
  refine P_aload_n d_CM_text_58 rfl ?_
  refine P_aload_n d_CM_text_59 rfl ?_
  refine P_putG (i := 1) d_CM_text_60 ok_CM (by decide) rfl L_CM_18 s1 (fun _ => rfl) (fun _ => rfl) (fun w2 e2 s2 n2 z2 => ?_)
  show PW _ _ _ _ _ _ (63, [(0, .ref 0), (1, .int 0), (2, .int 1), (3, .ref 1)], [], w2)
  refine P_aload_n d_CM_text_63 rfl ?_
  refine P_getf (i := 4) d_CM_text_64 ok_CM (by decide) L_CM_47 s2 rfl ?_
  refine P_callV (M := M_CM_text) (pc := 67) (as := []) (b := 169) d_CM_text_67 co_Past_forget ok_Past ((n2 _ (by decide)).trans ((n1 _ (by decide)).trans (fa hC 13 rfl))) L_CM_115 im_Past_forget se_Past_forget (v_Past_forget ((n2 _ (by decide)).trans ((n1 _ (by decide)).trans (fa hC 13 rfl)))) rfl ⟨by decide, by decide⟩ ⟨by decide, by decide⟩ (by exact le_b rfl) ?_ _ rfl
  rintro _ u ⟨rfl, eu⟩
  subst u
  show PW _ _ _ _ _ _ (70, [(0, .ref 0), (1, .int 0), (2, .int 1), (3, .ref 1)], [], w2)
  refine P_aload_n d_CM_text_70 rfl ?_
  refine P_getf (i := 0) d_CM_text_71 ok_CM (by decide) L_CM_12 s2 rfl ?_
  refine P_getfN (i := 3) d_CM_text_74 ok_Plane (by decide) L_CM_118 ((n2 _ (by decide)).trans ((n1 _ (by decide)).trans (fa hC 30 rfl))) rfl ?_
  exact P_iret d_CM_text_77 rfl (le_b rfl) (le_b rfl) ⟨rfl, by rw [z2, z1], fun i hi => ((n2 i (by omega)).trans (n1 i (by omega)))⟩
theorem z_CM_text {G : pG} {w : pW} (hC : Has cfL w.2) (a1 : Int32) : PM G M_CM_text 2 0 0 [.ref 0, .int a1] w (fun r w' => r = some (.int (ff 0 0 0 (-2) a1)) ∧ w'.1 = w.1 ∧ ∀ i, 467 ≤ i → w'.2 i = w.2 i) := by
  by_cases hr : 0 ≤ a1 ∧ a1 ≤ 0
  · rw [ff_in hr]
    rcases i_in00 hr with rfl
    exact z_CM_text_in hC
  · rw [ff_out hr]
    exact z_CM_text_out hC hr
theorem z_MD_text_in {G : pG} {w : pW} (hM : Has mfL w.2) : PM G M_MD_text 2 0 0 [.ref 467, .int 0] w (fun r w' => r = some (.int 0) ∧ True) := by
  refine PM_of pn_MD_text (le_b rfl) ?_
  show PW _ _ _ _ _ _ (0, [(0, .ref 467), (1, .int 0)], [], w)
  refine P_aload_n d_MD_text_0 rfl ?_
  refine P_iconst (v := 0) d_MD_text_1 (by decide) ?_
  refine P_putS (i := 0) d_MD_text_2 ok_Model (by decide) rfl L_MD_74 (fa hM 18 rfl) (fun _ => rfl) (fun _ => rfl) rfl ?_
  refine P_iload_n d_MD_text_5 rfl ?_
  refine P_if_lt 17 d_MD_text_6 (by decide) (fun h => absurd h (by decide)) (fun _ => ?_)
  refine P_iload_n d_MD_text_9 rfl ?_
  refine P_aload_n d_MD_text_10 rfl ?_
  refine P_getf (i := 2) d_MD_text_11 ok_Model (by decide) L_MD_77 (fa hM 18 rfl) rfl ?_
  refine P_icmp_le 20 d_MD_text_14 (by decide) (fun _ => ?_) (fun h => absurd (by decide) h)
  refine P_iconst (v := 0) d_MD_text_20 (by decide) ?_
  refine P_istore_n d_MD_text_21 (by decide) rfl ?_
  refine PW_ind (σ := Unit) 170 (fun _ _ => True) (fun j _ => (22, [(0, .ref 467), (1, .int 0), (2, .int (nI j))], [], w)) ?_ ?_ 0 () (by omega) trivial
  · intro _ _
    show PW _ _ _ _ _ _ (22, [(0, .ref 467), (1, .int 0), (2, .int 170)], [], w)
    refine P_iload_n d_MD_text_22 rfl ?_
    refine P_sipush (v := 170) d_MD_text_23 (by decide) ?_
    refine P_icmp_ge 42 d_MD_text_26 (by decide) (fun _ => ?_) (fun h => absurd (by decide) h)
    refine P_aload_n d_MD_text_42 rfl ?_
    refine P_iconst (v := 0) d_MD_text_43 (by decide) ?_
    refine P_putS (i := 6) d_MD_text_44 ok_Model (by decide) rfl L_MD_144 (fa hM 18 rfl) (fun _ => rfl) (fun _ => rfl) rfl ?_
    refine P_aload_n d_MD_text_47 rfl ?_
    refine P_iconst (v := 0) d_MD_text_48 (by decide) ?_
    refine P_putS (i := 12) d_MD_text_49 ok_Model (by decide) rfl L_MD_195 (fa hM 18 rfl) (fun _ => rfl) (fun _ => rfl) rfl ?_
    refine P_aload_n d_MD_text_52 rfl ?_
    refine P_iload_n d_MD_text_53 rfl ?_
    refine P_putS (i := 15) d_MD_text_54 ok_Model (by decide) rfl L_MD_83 (fa hM 18 rfl) (fun _ => rfl) (fun _ => rfl) rfl ?_
    refine P_aload_n d_MD_text_57 rfl ?_
    refine P_iconst (v := 0) d_MD_text_58 (by decide) ?_
    refine P_putS (i := 16) d_MD_text_59 ok_Model (by decide) rfl L_MD_80 (fa hM 18 rfl) (fun _ => rfl) (fun _ => rfl) rfl ?_
    refine P_aload_n d_MD_text_62 rfl ?_
    refine P_iconst (v := 0) d_MD_text_63 (by decide) ?_
    refine P_putS (i := 21) d_MD_text_64 ok_Model (by decide) rfl L_MD_124 (fa hM 18 rfl) (fun _ => rfl) (fun _ => rfl) rfl ?_
    refine P_aload_n d_MD_text_67 rfl ?_
    refine P_callV (M := M_MD_text) (pc := 68) (as := []) (b := 467) d_MD_text_68 co_MD_token ok_Model (fa hM 18 rfl) L_MD_134 im_MD_token se_MD_token (z_MD_token hM) rfl ⟨by decide, by decide⟩ ⟨by decide, by decide⟩ (by exact le_b rfl) ?_ _ rfl
    rintro _ w1 ⟨rfl, e1⟩
    have s1 : w1.2 467 = .inr (9, [.int 0, .ref 468, .int 0, .ref 469, .ref 470, .int 0, .int 0, .ref 471, .ref 472, .ref 473, .int 0, .int 0, .int 0, .ref 474, .ref 475, .int 0, .int 0, .int 0, .int 3, .int 0, .int 0, .int 0, .int 0, .int 0, .int (-1), .ref 476, .ref 477, .ref 478, .ref 479, .ref 480, .ref 481, .ref 482, .ref 483, .int 0, .ref 484, .int 0, .ref 485, .int 0]) := w_s e1
    have n1 : ∀ q, q ≠ 467 → w1.2 q = w.2 q := w_n e1
    have z1 : w1.1 = w.1 := w_z e1
    show PW _ _ _ _ _ _ (71, [(0, .ref 467), (1, .int 0), (2, .int 170)], [], w1)
    refine P_aload_n d_MD_text_71 rfl ?_
    refine P_getf (i := 21) d_MD_text_72 ok_Model (by decide) L_MD_124 s1 rfl ?_
    refine P_if_ne 93 d_MD_text_75 (by decide) (fun h => absurd (by decide) h) (fun _ => ?_)
    refine P_aload_n d_MD_text_78 rfl ?_
    refine P_getf (i := 18) d_MD_text_79 ok_Model (by decide) L_MD_93 s1 rfl ?_
    refine P_iconst (v := 3) d_MD_text_82 (by decide) ?_
    refine P_icmp_eq 93 d_MD_text_83 (by decide) (fun _ => ?_) (fun h => absurd (by decide) h)
    refine P_aload_n d_MD_text_93 rfl ?_
    refine P_iconst (v := 0) d_MD_text_94 (by decide) ?_
    refine P_putS (i := 2) d_MD_text_95 ok_Model (by decide) rfl L_MD_77 s1 (fun _ => rfl) (fun _ => rfl) rfl ?_
    refine P_aload_n d_MD_text_98 rfl ?_
    refine P_aload_n d_MD_text_99 rfl ?_
    refine P_getf (i := 21) d_MD_text_100 ok_Model (by decide) L_MD_124 s1 rfl ?_
    refine P_putS (i := 23) d_MD_text_103 ok_Model (by decide) rfl L_MD_201 s1 (fun _ => rfl) (fun _ => rfl) rfl ?_
    refine P_aload_n d_MD_text_106 rfl ?_
    refine P_aload_n d_MD_text_107 rfl ?_
    refine P_getf (i := 21) d_MD_text_108 ok_Model (by decide) L_MD_124 s1 rfl ?_
    refine P_if_ne 118 d_MD_text_111 (by decide) (fun h => absurd (by decide) h) (fun _ => ?_)
    refine P_iconst (v := (-1)) d_MD_text_114 (by decide) ?_
    refine P_goto 122 d_MD_text_115 (by decide) ?_
    refine P_putS (i := 24) d_MD_text_122 ok_Model (by decide) rfl L_MD_37 s1 (fun _ => rfl) (fun _ => rfl) rfl ?_
    refine P_aload_n d_MD_text_125 rfl ?_
    refine P_getf (i := 21) d_MD_text_126 ok_Model (by decide) L_MD_124 s1 rfl ?_
    refine P_if_eq 134 d_MD_text_129 (by decide) (fun _ => ?_) (fun h => absurd (by decide) h)
    refine P_iconst (v := 0) d_MD_text_134 (by decide) ?_
    refine P_istore_n d_MD_text_135 (by decide) rfl ?_
    refine PW_ind (σ := Unit) 64 (fun _ _ => True) (fun j _ => (136, [(0, .ref 467), (1, .int 0), (2, .int (nI j))], [], w1)) ?_ ?_ 0 () (by omega) trivial
    · intro _ _
      show PW _ _ _ _ _ _ (136, [(0, .ref 467), (1, .int 0), (2, .int 64)], [], w1)
      refine P_iload_n d_MD_text_136 rfl ?_
      refine P_bipush (v := 64) d_MD_text_137 (by decide) ?_
      refine P_icmp_ge 160 d_MD_text_139 (by decide) (fun _ => ?_) (fun h => absurd (by decide) h)
      refine P_iconst (v := 0) d_MD_text_160 (by decide) ?_
      refine P_istore_n d_MD_text_161 (by decide) rfl ?_
      refine PW_ind (σ := Unit) 170 (fun _ _ => True) (fun j _ => (162, [(0, .ref 467), (1, .int 0), (2, .int (nI j))], [], w1)) ?_ ?_ 0 () (by omega) trivial
      · intro _ _
        show PW _ _ _ _ _ _ (162, [(0, .ref 467), (1, .int 0), (2, .int 170)], [], w1)
        refine P_iload_n d_MD_text_162 rfl ?_
        refine P_sipush (v := 170) d_MD_text_163 (by decide) ?_
        refine P_icmp_ge 187 d_MD_text_166 (by decide) (fun _ => ?_) (fun h => absurd (by decide) h)
        refine P_aload_n d_MD_text_187 rfl ?_
        refine P_aload_n d_MD_text_188 rfl ?_
        refine P_getf (i := 6) d_MD_text_189 ok_Model (by decide) L_MD_144 s1 rfl ?_
        refine P_putS (i := 5) d_MD_text_192 ok_Model (by decide) rfl L_MD_204 s1 (fun _ => rfl) (fun _ => rfl) rfl ?_
        refine P_aload_n d_MD_text_195 rfl ?_
        refine P_aload_n d_MD_text_196 rfl ?_
        refine P_getf (i := 12) d_MD_text_197 ok_Model (by decide) L_MD_195 s1 rfl ?_
        refine P_putS (i := 11) d_MD_text_200 ok_Model (by decide) rfl L_MD_207 s1 (fun _ => rfl) (fun _ => rfl) rfl ?_
        refine P_aload_n d_MD_text_203 rfl ?_
        refine P_iconst (v := 0) d_MD_text_204 (by decide) ?_
        refine P_putS (i := 10) d_MD_text_205 ok_Model (by decide) rfl L_MD_71 s1 (fun _ => rfl) (fun _ => rfl) rfl ?_
        refine P_aload_n d_MD_text_208 rfl ?_
        refine P_getf (i := 11) d_MD_text_209 ok_Model (by decide) L_MD_207 s1 rfl ?_
        exact P_iret d_MD_text_212 rfl (le_b rfl) (le_b rfl) ⟨rfl, trivial⟩
      · intro j _ hj _ kk
        show PW _ _ _ _ _ _ (162, [(0, .ref 467), (1, .int 0), (2, .int (nI j))], [], w1)
        refine P_iload_n d_MD_text_162 rfl ?_
        refine P_sipush (v := 170) d_MD_text_163 (by decide) ?_
        refine P_icmp_ge 187 d_MD_text_166 (by decide) (fun h => absurd h (nI_ge hj (by decide))) (fun _ => ?_)
        refine P_aload_n d_MD_text_169 rfl ?_
        refine P_getf (i := 7) d_MD_text_170 ok_Model (by decide) L_MD_21 s1 rfl ?_
        refine P_iload_n d_MD_text_173 rfl ?_
        refine P_aload_n d_MD_text_174 rfl ?_
        refine P_getf (i := 8) d_MD_text_175 ok_Model (by decide) L_MD_25 s1 rfl ?_
        refine P_iload_n d_MD_text_178 rfl ?_
        refine P_lald (j := j) d_MD_text_179 ((n1 _ (by decide)).trans (fa hM 4 rfl)) (ix_nI (by omega)) (by omega) ?_
        show PW _ _ _ _ _ _ (180, [(0, .ref 467), (1, .int 0), (2, .int (nI j))], [.long 0, .int (nI j), .ref 471], w1)
        refine P_lastS (j := j) d_MD_text_180 ((n1 _ (by decide)).trans (fa hM 3 rfl)) (by decide) (ix_nI (by omega)) (by omega) (updL_same (fun _ => 0) j) ?_
        refine P_iinc (v := nI (j + 1)) d_MD_text_181 (by decide) rfl (nI_succ j).symm rfl ?_
        refine P_goto 162 d_MD_text_184 (by decide) ?_
        exact kk () trivial
    · intro j _ hj _ kk
      show PW _ _ _ _ _ _ (136, [(0, .ref 467), (1, .int 0), (2, .int (nI j))], [], w1)
      refine P_iload_n d_MD_text_136 rfl ?_
      refine P_bipush (v := 64) d_MD_text_137 (by decide) ?_
      refine P_icmp_ge 160 d_MD_text_139 (by decide) (fun h => absurd h (nI_ge hj (by decide))) (fun _ => ?_)
      refine P_aload_n d_MD_text_142 rfl ?_
      refine P_getf (i := 3) d_MD_text_143 ok_Model (by decide) L_MD_15 s1 rfl ?_
      refine P_iload_n d_MD_text_146 rfl ?_
      refine P_aload_n d_MD_text_147 rfl ?_
      refine P_getf (i := 4) d_MD_text_148 ok_Model (by decide) L_MD_18 s1 rfl ?_
      refine P_iload_n d_MD_text_151 rfl ?_
      refine P_iald (j := j) d_MD_text_152 ((n1 _ (by decide)).trans (fa hM 2 rfl)) (ix_nI (by omega)) (by omega) ?_
      show PW _ _ _ _ _ _ (153, [(0, .ref 467), (1, .int 0), (2, .int (nI j))], [.int 0, .int (nI j), .ref 469], w1)
      refine P_iastS (j := j) d_MD_text_153 ((n1 _ (by decide)).trans (fa hM 1 rfl)) (by decide) (ix_nI (by omega)) (by omega) (upd_same (fun _ => 0) j) ?_
      refine P_iinc (v := nI (j + 1)) d_MD_text_154 (by decide) rfl (nI_succ j).symm rfl ?_
      refine P_goto 136 d_MD_text_157 (by decide) ?_
      exact kk () trivial
  · intro j _ hj _ kk
    show PW _ _ _ _ _ _ (22, [(0, .ref 467), (1, .int 0), (2, .int (nI j))], [], w)
    refine P_iload_n d_MD_text_22 rfl ?_
    refine P_sipush (v := 170) d_MD_text_23 (by decide) ?_
    refine P_icmp_ge 42 d_MD_text_26 (by decide) (fun h => absurd h (nI_ge hj (by decide))) (fun _ => ?_)
    refine P_aload_n d_MD_text_29 rfl ?_
    refine P_getf (i := 8) d_MD_text_30 ok_Model (by decide) L_MD_25 (fa hM 18 rfl) rfl ?_
    refine P_iload_n d_MD_text_33 rfl ?_
    refine P_lconst (v := 0) d_MD_text_34 (by decide) ?_
    refine P_lastS (j := j) d_MD_text_35 (fa hM 4 rfl) (by decide) (ix_nI (by omega)) (by omega) (updL_same (fun _ => 0) j) ?_
    refine P_iinc (v := nI (j + 1)) d_MD_text_36 (by decide) rfl (nI_succ j).symm rfl ?_
    refine P_goto 22 d_MD_text_39 (by decide) ?_
    exact kk () trivial
theorem z_MD_text {G : pG} {w : pW} (hM : Has mfL w.2) (a1 : Int32) : PM G M_MD_text 2 0 0 [.ref 467, .int a1] w (fun r w' => r = some (.int (ff 0 0 0 (-2) a1)) ∧ True) := by
  by_cases hr : 0 ≤ a1 ∧ a1 ≤ 0
  · rw [ff_in hr]
    rcases i_in00 hr with rfl
    exact z_MD_text_in hM
  · rw [ff_out hr]
    exact z_MD_text_out hM hr
theorem z_Tape_put_0 {G : pG} {w : pW} {f : Nat → Int32} (h153 : w.2 153 = .inr (2, [.ref 154, .int 0])) (h154 : w.2 154 = .inl (0, 900, .inl f)) (a1 : Int32) : PM G M_Tape_put 0 0 0 [.ref 153, .int a1] w (fun r w' => r = none ∧ w'.1 = w.1 ∧ w'.2 153 = .inr (2, [.ref 154, .int 4]) ∧ (∃ f' : Nat → Int32, w'.2 154 = .inl (0, 900, .inl f')) ∧ ∀ i, i ≠ 153 → i ≠ 154 → w'.2 i = w.2 i) := by
  refine PM_of pn_Tape_put (le_b rfl) ?_
  show PW _ _ _ _ _ _ (0, [(0, .ref 153), (1, .int a1)], [], w)
  refine P_bipush (v := 24) d_Tape_put_0 (by decide) ?_
  refine P_istore_n d_Tape_put_2 (by decide) rfl ?_
  refine P_iload_n d_Tape_put_3 rfl ?_
  refine P_if_lt 49 d_Tape_put_4 (by decide) (fun h => absurd h (by decide)) (fun _ => ?_)
  refine P_aload_n d_Tape_put_7 rfl ?_
  refine P_getf (i := 1) d_Tape_put_8 ok_Tape (by decide) L_Tape_15 h153 rfl ?_
  refine P_sipush (v := 900) d_Tape_put_11 (by decide) ?_
  refine P_icmp_ge 49 d_Tape_put_14 (by decide) (fun h => absurd h (by decide)) (fun _ => ?_)
  refine P_aload_n d_Tape_put_17 rfl ?_
  refine P_getf (i := 0) d_Tape_put_18 ok_Tape (by decide) L_Tape_9 h153 rfl ?_
  refine P_aload_n d_Tape_put_21 rfl ?_
  refine P_getf (i := 1) d_Tape_put_22 ok_Tape (by decide) L_Tape_15 h153 rfl ?_
  refine P_iload_n d_Tape_put_25 rfl ?_
  refine P_iload_n d_Tape_put_26 rfl ?_
  refine P_iushr d_Tape_put_27 ?_
  refine P_sipush (v := 255) d_Tape_put_28 (by decide) ?_
  refine P_iand d_Tape_put_31 ?_
  refine P_iastG (j := 0) d_Tape_put_32 h154 (by decide) ⟨by decide, by decide⟩ (by decide) (fun w1 e1 s1 n1 z1 => ?_)
  show PW _ _ _ _ _ _ (33, [(0, .ref 153), (1, .int a1), (2, .int 24)], [], w1)
  refine P_aload_n d_Tape_put_33 rfl ?_
  refine P_dup d_Tape_put_34 rfl ?_
  refine P_getf (i := 1) d_Tape_put_35 ok_Tape (by decide) L_Tape_15 ((n1 _ (by decide)).trans h153) rfl ?_
  refine P_iconst (v := 1) d_Tape_put_38 (by decide) ?_
  refine P_iadd d_Tape_put_39 ?_
  show PW _ _ _ _ _ _ (40, [(0, .ref 153), (1, .int a1), (2, .int 24)], [.int 1, .ref 153], w1)
  refine P_putG (i := 1) d_Tape_put_40 ok_Tape (by decide) rfl L_Tape_15 ((n1 _ (by decide)).trans h153) (fun _ => rfl) (fun _ => rfl) (fun w2 e2 s2 n2 z2 => ?_)
  show PW _ _ _ _ _ _ (43, [(0, .ref 153), (1, .int a1), (2, .int 24)], [], w2)
  refine P_iinc (v := 16) d_Tape_put_43 (by decide) rfl (by decide) rfl ?_
  refine P_goto 3 d_Tape_put_46 (by decide) ?_
  refine P_iload_n d_Tape_put_3 rfl ?_
  refine P_if_lt 49 d_Tape_put_4 (by decide) (fun h => absurd h (by decide)) (fun _ => ?_)
  refine P_aload_n d_Tape_put_7 rfl ?_
  refine P_getf (i := 1) d_Tape_put_8 ok_Tape (by decide) L_Tape_15 s2 rfl ?_
  refine P_sipush (v := 900) d_Tape_put_11 (by decide) ?_
  refine P_icmp_ge 49 d_Tape_put_14 (by decide) (fun h => absurd h (by decide)) (fun _ => ?_)
  refine P_aload_n d_Tape_put_17 rfl ?_
  refine P_getf (i := 0) d_Tape_put_18 ok_Tape (by decide) L_Tape_9 s2 rfl ?_
  refine P_aload_n d_Tape_put_21 rfl ?_
  refine P_getf (i := 1) d_Tape_put_22 ok_Tape (by decide) L_Tape_15 s2 rfl ?_
  refine P_iload_n d_Tape_put_25 rfl ?_
  refine P_iload_n d_Tape_put_26 rfl ?_
  refine P_iushr d_Tape_put_27 ?_
  refine P_sipush (v := 255) d_Tape_put_28 (by decide) ?_
  refine P_iand d_Tape_put_31 ?_
  refine P_iastG (j := 1) d_Tape_put_32 ((n2 _ (by decide)).trans s1) (by decide) ⟨by decide, by decide⟩ (by decide) (fun w3 e3 s3 n3 z3 => ?_)
  show PW _ _ _ _ _ _ (33, [(0, .ref 153), (1, .int a1), (2, .int 16)], [], w3)
  refine P_aload_n d_Tape_put_33 rfl ?_
  refine P_dup d_Tape_put_34 rfl ?_
  refine P_getf (i := 1) d_Tape_put_35 ok_Tape (by decide) L_Tape_15 ((n3 _ (by decide)).trans s2) rfl ?_
  refine P_iconst (v := 1) d_Tape_put_38 (by decide) ?_
  refine P_iadd d_Tape_put_39 ?_
  show PW _ _ _ _ _ _ (40, [(0, .ref 153), (1, .int a1), (2, .int 16)], [.int 2, .ref 153], w3)
  refine P_putG (i := 1) d_Tape_put_40 ok_Tape (by decide) rfl L_Tape_15 ((n3 _ (by decide)).trans s2) (fun _ => rfl) (fun _ => rfl) (fun w4 e4 s4 n4 z4 => ?_)
  show PW _ _ _ _ _ _ (43, [(0, .ref 153), (1, .int a1), (2, .int 16)], [], w4)
  refine P_iinc (v := 8) d_Tape_put_43 (by decide) rfl (by decide) rfl ?_
  refine P_goto 3 d_Tape_put_46 (by decide) ?_
  refine P_iload_n d_Tape_put_3 rfl ?_
  refine P_if_lt 49 d_Tape_put_4 (by decide) (fun h => absurd h (by decide)) (fun _ => ?_)
  refine P_aload_n d_Tape_put_7 rfl ?_
  refine P_getf (i := 1) d_Tape_put_8 ok_Tape (by decide) L_Tape_15 s4 rfl ?_
  refine P_sipush (v := 900) d_Tape_put_11 (by decide) ?_
  refine P_icmp_ge 49 d_Tape_put_14 (by decide) (fun h => absurd h (by decide)) (fun _ => ?_)
  refine P_aload_n d_Tape_put_17 rfl ?_
  refine P_getf (i := 0) d_Tape_put_18 ok_Tape (by decide) L_Tape_9 s4 rfl ?_
  refine P_aload_n d_Tape_put_21 rfl ?_
  refine P_getf (i := 1) d_Tape_put_22 ok_Tape (by decide) L_Tape_15 s4 rfl ?_
  refine P_iload_n d_Tape_put_25 rfl ?_
  refine P_iload_n d_Tape_put_26 rfl ?_
  refine P_iushr d_Tape_put_27 ?_
  refine P_sipush (v := 255) d_Tape_put_28 (by decide) ?_
  refine P_iand d_Tape_put_31 ?_
  refine P_iastG (j := 2) d_Tape_put_32 ((n4 _ (by decide)).trans s3) (by decide) ⟨by decide, by decide⟩ (by decide) (fun w5 e5 s5 n5 z5 => ?_)
  show PW _ _ _ _ _ _ (33, [(0, .ref 153), (1, .int a1), (2, .int 8)], [], w5)
  refine P_aload_n d_Tape_put_33 rfl ?_
  refine P_dup d_Tape_put_34 rfl ?_
  refine P_getf (i := 1) d_Tape_put_35 ok_Tape (by decide) L_Tape_15 ((n5 _ (by decide)).trans s4) rfl ?_
  refine P_iconst (v := 1) d_Tape_put_38 (by decide) ?_
  refine P_iadd d_Tape_put_39 ?_
  show PW _ _ _ _ _ _ (40, [(0, .ref 153), (1, .int a1), (2, .int 8)], [.int 3, .ref 153], w5)
  refine P_putG (i := 1) d_Tape_put_40 ok_Tape (by decide) rfl L_Tape_15 ((n5 _ (by decide)).trans s4) (fun _ => rfl) (fun _ => rfl) (fun w6 e6 s6 n6 z6 => ?_)
  show PW _ _ _ _ _ _ (43, [(0, .ref 153), (1, .int a1), (2, .int 8)], [], w6)
  refine P_iinc (v := 0) d_Tape_put_43 (by decide) rfl (by decide) rfl ?_
  refine P_goto 3 d_Tape_put_46 (by decide) ?_
  refine P_iload_n d_Tape_put_3 rfl ?_
  refine P_if_lt 49 d_Tape_put_4 (by decide) (fun h => absurd h (by decide)) (fun _ => ?_)
  refine P_aload_n d_Tape_put_7 rfl ?_
  refine P_getf (i := 1) d_Tape_put_8 ok_Tape (by decide) L_Tape_15 s6 rfl ?_
  refine P_sipush (v := 900) d_Tape_put_11 (by decide) ?_
  refine P_icmp_ge 49 d_Tape_put_14 (by decide) (fun h => absurd h (by decide)) (fun _ => ?_)
  refine P_aload_n d_Tape_put_17 rfl ?_
  refine P_getf (i := 0) d_Tape_put_18 ok_Tape (by decide) L_Tape_9 s6 rfl ?_
  refine P_aload_n d_Tape_put_21 rfl ?_
  refine P_getf (i := 1) d_Tape_put_22 ok_Tape (by decide) L_Tape_15 s6 rfl ?_
  refine P_iload_n d_Tape_put_25 rfl ?_
  refine P_iload_n d_Tape_put_26 rfl ?_
  refine P_iushr d_Tape_put_27 ?_
  refine P_sipush (v := 255) d_Tape_put_28 (by decide) ?_
  refine P_iand d_Tape_put_31 ?_
  refine P_iastG (j := 3) d_Tape_put_32 ((n6 _ (by decide)).trans s5) (by decide) ⟨by decide, by decide⟩ (by decide) (fun w7 e7 s7 n7 z7 => ?_)
  show PW _ _ _ _ _ _ (33, [(0, .ref 153), (1, .int a1), (2, .int 0)], [], w7)
  refine P_aload_n d_Tape_put_33 rfl ?_
  refine P_dup d_Tape_put_34 rfl ?_
  refine P_getf (i := 1) d_Tape_put_35 ok_Tape (by decide) L_Tape_15 ((n7 _ (by decide)).trans s6) rfl ?_
  refine P_iconst (v := 1) d_Tape_put_38 (by decide) ?_
  refine P_iadd d_Tape_put_39 ?_
  show PW _ _ _ _ _ _ (40, [(0, .ref 153), (1, .int a1), (2, .int 0)], [.int 4, .ref 153], w7)
  refine P_putG (i := 1) d_Tape_put_40 ok_Tape (by decide) rfl L_Tape_15 ((n7 _ (by decide)).trans s6) (fun _ => rfl) (fun _ => rfl) (fun w8 e8 s8 n8 z8 => ?_)
  show PW _ _ _ _ _ _ (43, [(0, .ref 153), (1, .int a1), (2, .int 0)], [], w8)
  refine P_iinc (v := (-8)) d_Tape_put_43 (by decide) rfl (by decide) rfl ?_
  refine P_goto 3 d_Tape_put_46 (by decide) ?_
  refine P_iload_n d_Tape_put_3 rfl ?_
  refine P_if_lt 49 d_Tape_put_4 (by decide) (fun _ => ?_) (fun h => absurd (by decide) h)
  exact P_vret d_Tape_put_49 rfl (le_b rfl) (le_b rfl) ⟨rfl, by rw [z8, z7, z6, z5, z4, z3, z2, z1], s8, ⟨_, ((n8 _ (by decide)).trans s7)⟩, fun i h1 h2 => ((n8 i (by assumption)).trans ((n7 i (by assumption)).trans ((n6 i (by assumption)).trans ((n5 i (by assumption)).trans ((n4 i (by assumption)).trans ((n3 i (by assumption)).trans ((n2 i (by assumption)).trans (n1 i (by assumption)))))))))⟩
theorem z_Tape_put_4 {G : pG} {w : pW} {f : Nat → Int32} (h153 : w.2 153 = .inr (2, [.ref 154, .int 4])) (h154 : w.2 154 = .inl (0, 900, .inl f)) (a1 : Int32) : PM G M_Tape_put 0 0 0 [.ref 153, .int a1] w (fun r w' => r = none ∧ w'.1 = w.1 ∧ w'.2 153 = .inr (2, [.ref 154, .int 8]) ∧ (∃ f' : Nat → Int32, w'.2 154 = .inl (0, 900, .inl f')) ∧ ∀ i, i ≠ 153 → i ≠ 154 → w'.2 i = w.2 i) := by
  refine PM_of pn_Tape_put (le_b rfl) ?_
  show PW _ _ _ _ _ _ (0, [(0, .ref 153), (1, .int a1)], [], w)
  refine P_bipush (v := 24) d_Tape_put_0 (by decide) ?_
  refine P_istore_n d_Tape_put_2 (by decide) rfl ?_
  refine P_iload_n d_Tape_put_3 rfl ?_
  refine P_if_lt 49 d_Tape_put_4 (by decide) (fun h => absurd h (by decide)) (fun _ => ?_)
  refine P_aload_n d_Tape_put_7 rfl ?_
  refine P_getf (i := 1) d_Tape_put_8 ok_Tape (by decide) L_Tape_15 h153 rfl ?_
  refine P_sipush (v := 900) d_Tape_put_11 (by decide) ?_
  refine P_icmp_ge 49 d_Tape_put_14 (by decide) (fun h => absurd h (by decide)) (fun _ => ?_)
  refine P_aload_n d_Tape_put_17 rfl ?_
  refine P_getf (i := 0) d_Tape_put_18 ok_Tape (by decide) L_Tape_9 h153 rfl ?_
  refine P_aload_n d_Tape_put_21 rfl ?_
  refine P_getf (i := 1) d_Tape_put_22 ok_Tape (by decide) L_Tape_15 h153 rfl ?_
  refine P_iload_n d_Tape_put_25 rfl ?_
  refine P_iload_n d_Tape_put_26 rfl ?_
  refine P_iushr d_Tape_put_27 ?_
  refine P_sipush (v := 255) d_Tape_put_28 (by decide) ?_
  refine P_iand d_Tape_put_31 ?_
  refine P_iastG (j := 4) d_Tape_put_32 h154 (by decide) ⟨by decide, by decide⟩ (by decide) (fun w1 e1 s1 n1 z1 => ?_)
  show PW _ _ _ _ _ _ (33, [(0, .ref 153), (1, .int a1), (2, .int 24)], [], w1)
  refine P_aload_n d_Tape_put_33 rfl ?_
  refine P_dup d_Tape_put_34 rfl ?_
  refine P_getf (i := 1) d_Tape_put_35 ok_Tape (by decide) L_Tape_15 ((n1 _ (by decide)).trans h153) rfl ?_
  refine P_iconst (v := 1) d_Tape_put_38 (by decide) ?_
  refine P_iadd d_Tape_put_39 ?_
  show PW _ _ _ _ _ _ (40, [(0, .ref 153), (1, .int a1), (2, .int 24)], [.int 5, .ref 153], w1)
  refine P_putG (i := 1) d_Tape_put_40 ok_Tape (by decide) rfl L_Tape_15 ((n1 _ (by decide)).trans h153) (fun _ => rfl) (fun _ => rfl) (fun w2 e2 s2 n2 z2 => ?_)
  show PW _ _ _ _ _ _ (43, [(0, .ref 153), (1, .int a1), (2, .int 24)], [], w2)
  refine P_iinc (v := 16) d_Tape_put_43 (by decide) rfl (by decide) rfl ?_
  refine P_goto 3 d_Tape_put_46 (by decide) ?_
  refine P_iload_n d_Tape_put_3 rfl ?_
  refine P_if_lt 49 d_Tape_put_4 (by decide) (fun h => absurd h (by decide)) (fun _ => ?_)
  refine P_aload_n d_Tape_put_7 rfl ?_
  refine P_getf (i := 1) d_Tape_put_8 ok_Tape (by decide) L_Tape_15 s2 rfl ?_
  refine P_sipush (v := 900) d_Tape_put_11 (by decide) ?_
  refine P_icmp_ge 49 d_Tape_put_14 (by decide) (fun h => absurd h (by decide)) (fun _ => ?_)
  refine P_aload_n d_Tape_put_17 rfl ?_
  refine P_getf (i := 0) d_Tape_put_18 ok_Tape (by decide) L_Tape_9 s2 rfl ?_
  refine P_aload_n d_Tape_put_21 rfl ?_
  refine P_getf (i := 1) d_Tape_put_22 ok_Tape (by decide) L_Tape_15 s2 rfl ?_
  refine P_iload_n d_Tape_put_25 rfl ?_
  refine P_iload_n d_Tape_put_26 rfl ?_
  refine P_iushr d_Tape_put_27 ?_
  refine P_sipush (v := 255) d_Tape_put_28 (by decide) ?_
  refine P_iand d_Tape_put_31 ?_
  refine P_iastG (j := 5) d_Tape_put_32 ((n2 _ (by decide)).trans s1) (by decide) ⟨by decide, by decide⟩ (by decide) (fun w3 e3 s3 n3 z3 => ?_)
  show PW _ _ _ _ _ _ (33, [(0, .ref 153), (1, .int a1), (2, .int 16)], [], w3)
  refine P_aload_n d_Tape_put_33 rfl ?_
  refine P_dup d_Tape_put_34 rfl ?_
  refine P_getf (i := 1) d_Tape_put_35 ok_Tape (by decide) L_Tape_15 ((n3 _ (by decide)).trans s2) rfl ?_
  refine P_iconst (v := 1) d_Tape_put_38 (by decide) ?_
  refine P_iadd d_Tape_put_39 ?_
  show PW _ _ _ _ _ _ (40, [(0, .ref 153), (1, .int a1), (2, .int 16)], [.int 6, .ref 153], w3)
  refine P_putG (i := 1) d_Tape_put_40 ok_Tape (by decide) rfl L_Tape_15 ((n3 _ (by decide)).trans s2) (fun _ => rfl) (fun _ => rfl) (fun w4 e4 s4 n4 z4 => ?_)
  show PW _ _ _ _ _ _ (43, [(0, .ref 153), (1, .int a1), (2, .int 16)], [], w4)
  refine P_iinc (v := 8) d_Tape_put_43 (by decide) rfl (by decide) rfl ?_
  refine P_goto 3 d_Tape_put_46 (by decide) ?_
  refine P_iload_n d_Tape_put_3 rfl ?_
  refine P_if_lt 49 d_Tape_put_4 (by decide) (fun h => absurd h (by decide)) (fun _ => ?_)
  refine P_aload_n d_Tape_put_7 rfl ?_
  refine P_getf (i := 1) d_Tape_put_8 ok_Tape (by decide) L_Tape_15 s4 rfl ?_
  refine P_sipush (v := 900) d_Tape_put_11 (by decide) ?_
  refine P_icmp_ge 49 d_Tape_put_14 (by decide) (fun h => absurd h (by decide)) (fun _ => ?_)
  refine P_aload_n d_Tape_put_17 rfl ?_
  refine P_getf (i := 0) d_Tape_put_18 ok_Tape (by decide) L_Tape_9 s4 rfl ?_
  refine P_aload_n d_Tape_put_21 rfl ?_
  refine P_getf (i := 1) d_Tape_put_22 ok_Tape (by decide) L_Tape_15 s4 rfl ?_
  refine P_iload_n d_Tape_put_25 rfl ?_
  refine P_iload_n d_Tape_put_26 rfl ?_
  refine P_iushr d_Tape_put_27 ?_
  refine P_sipush (v := 255) d_Tape_put_28 (by decide) ?_
  refine P_iand d_Tape_put_31 ?_
  refine P_iastG (j := 6) d_Tape_put_32 ((n4 _ (by decide)).trans s3) (by decide) ⟨by decide, by decide⟩ (by decide) (fun w5 e5 s5 n5 z5 => ?_)
  show PW _ _ _ _ _ _ (33, [(0, .ref 153), (1, .int a1), (2, .int 8)], [], w5)
  refine P_aload_n d_Tape_put_33 rfl ?_
  refine P_dup d_Tape_put_34 rfl ?_
  refine P_getf (i := 1) d_Tape_put_35 ok_Tape (by decide) L_Tape_15 ((n5 _ (by decide)).trans s4) rfl ?_
  refine P_iconst (v := 1) d_Tape_put_38 (by decide) ?_
  refine P_iadd d_Tape_put_39 ?_
  show PW _ _ _ _ _ _ (40, [(0, .ref 153), (1, .int a1), (2, .int 8)], [.int 7, .ref 153], w5)
  refine P_putG (i := 1) d_Tape_put_40 ok_Tape (by decide) rfl L_Tape_15 ((n5 _ (by decide)).trans s4) (fun _ => rfl) (fun _ => rfl) (fun w6 e6 s6 n6 z6 => ?_)
  show PW _ _ _ _ _ _ (43, [(0, .ref 153), (1, .int a1), (2, .int 8)], [], w6)
  refine P_iinc (v := 0) d_Tape_put_43 (by decide) rfl (by decide) rfl ?_
  refine P_goto 3 d_Tape_put_46 (by decide) ?_
  refine P_iload_n d_Tape_put_3 rfl ?_
  refine P_if_lt 49 d_Tape_put_4 (by decide) (fun h => absurd h (by decide)) (fun _ => ?_)
  refine P_aload_n d_Tape_put_7 rfl ?_
  refine P_getf (i := 1) d_Tape_put_8 ok_Tape (by decide) L_Tape_15 s6 rfl ?_
  refine P_sipush (v := 900) d_Tape_put_11 (by decide) ?_
  refine P_icmp_ge 49 d_Tape_put_14 (by decide) (fun h => absurd h (by decide)) (fun _ => ?_)
  refine P_aload_n d_Tape_put_17 rfl ?_
  refine P_getf (i := 0) d_Tape_put_18 ok_Tape (by decide) L_Tape_9 s6 rfl ?_
  refine P_aload_n d_Tape_put_21 rfl ?_
  refine P_getf (i := 1) d_Tape_put_22 ok_Tape (by decide) L_Tape_15 s6 rfl ?_
  refine P_iload_n d_Tape_put_25 rfl ?_
  refine P_iload_n d_Tape_put_26 rfl ?_
  refine P_iushr d_Tape_put_27 ?_
  refine P_sipush (v := 255) d_Tape_put_28 (by decide) ?_
  refine P_iand d_Tape_put_31 ?_
  refine P_iastG (j := 7) d_Tape_put_32 ((n6 _ (by decide)).trans s5) (by decide) ⟨by decide, by decide⟩ (by decide) (fun w7 e7 s7 n7 z7 => ?_)
  show PW _ _ _ _ _ _ (33, [(0, .ref 153), (1, .int a1), (2, .int 0)], [], w7)
  refine P_aload_n d_Tape_put_33 rfl ?_
  refine P_dup d_Tape_put_34 rfl ?_
  refine P_getf (i := 1) d_Tape_put_35 ok_Tape (by decide) L_Tape_15 ((n7 _ (by decide)).trans s6) rfl ?_
  refine P_iconst (v := 1) d_Tape_put_38 (by decide) ?_
  refine P_iadd d_Tape_put_39 ?_
  show PW _ _ _ _ _ _ (40, [(0, .ref 153), (1, .int a1), (2, .int 0)], [.int 8, .ref 153], w7)
  refine P_putG (i := 1) d_Tape_put_40 ok_Tape (by decide) rfl L_Tape_15 ((n7 _ (by decide)).trans s6) (fun _ => rfl) (fun _ => rfl) (fun w8 e8 s8 n8 z8 => ?_)
  show PW _ _ _ _ _ _ (43, [(0, .ref 153), (1, .int a1), (2, .int 0)], [], w8)
  refine P_iinc (v := (-8)) d_Tape_put_43 (by decide) rfl (by decide) rfl ?_
  refine P_goto 3 d_Tape_put_46 (by decide) ?_
  refine P_iload_n d_Tape_put_3 rfl ?_
  refine P_if_lt 49 d_Tape_put_4 (by decide) (fun _ => ?_) (fun h => absurd (by decide) h)
  exact P_vret d_Tape_put_49 rfl (le_b rfl) (le_b rfl) ⟨rfl, by rw [z8, z7, z6, z5, z4, z3, z2, z1], s8, ⟨_, ((n8 _ (by decide)).trans s7)⟩, fun i h1 h2 => ((n8 i (by assumption)).trans ((n7 i (by assumption)).trans ((n6 i (by assumption)).trans ((n5 i (by assumption)).trans ((n4 i (by assumption)).trans ((n3 i (by assumption)).trans ((n2 i (by assumption)).trans (n1 i (by assumption)))))))))⟩
theorem z_Tape_put_8 {G : pG} {w : pW} {f : Nat → Int32} (h153 : w.2 153 = .inr (2, [.ref 154, .int 8])) (h154 : w.2 154 = .inl (0, 900, .inl f)) (a1 : Int32) : PM G M_Tape_put 0 0 0 [.ref 153, .int a1] w (fun r w' => r = none ∧ w'.1 = w.1 ∧ w'.2 153 = .inr (2, [.ref 154, .int 12]) ∧ (∃ f' : Nat → Int32, w'.2 154 = .inl (0, 900, .inl f')) ∧ ∀ i, i ≠ 153 → i ≠ 154 → w'.2 i = w.2 i) := by
  refine PM_of pn_Tape_put (le_b rfl) ?_
  show PW _ _ _ _ _ _ (0, [(0, .ref 153), (1, .int a1)], [], w)
  refine P_bipush (v := 24) d_Tape_put_0 (by decide) ?_
  refine P_istore_n d_Tape_put_2 (by decide) rfl ?_
  refine P_iload_n d_Tape_put_3 rfl ?_
  refine P_if_lt 49 d_Tape_put_4 (by decide) (fun h => absurd h (by decide)) (fun _ => ?_)
  refine P_aload_n d_Tape_put_7 rfl ?_
  refine P_getf (i := 1) d_Tape_put_8 ok_Tape (by decide) L_Tape_15 h153 rfl ?_
  refine P_sipush (v := 900) d_Tape_put_11 (by decide) ?_
  refine P_icmp_ge 49 d_Tape_put_14 (by decide) (fun h => absurd h (by decide)) (fun _ => ?_)
  refine P_aload_n d_Tape_put_17 rfl ?_
  refine P_getf (i := 0) d_Tape_put_18 ok_Tape (by decide) L_Tape_9 h153 rfl ?_
  refine P_aload_n d_Tape_put_21 rfl ?_
  refine P_getf (i := 1) d_Tape_put_22 ok_Tape (by decide) L_Tape_15 h153 rfl ?_
  refine P_iload_n d_Tape_put_25 rfl ?_
  refine P_iload_n d_Tape_put_26 rfl ?_
  refine P_iushr d_Tape_put_27 ?_
  refine P_sipush (v := 255) d_Tape_put_28 (by decide) ?_
  refine P_iand d_Tape_put_31 ?_
  refine P_iastG (j := 8) d_Tape_put_32 h154 (by decide) ⟨by decide, by decide⟩ (by decide) (fun w1 e1 s1 n1 z1 => ?_)
  show PW _ _ _ _ _ _ (33, [(0, .ref 153), (1, .int a1), (2, .int 24)], [], w1)
  refine P_aload_n d_Tape_put_33 rfl ?_
  refine P_dup d_Tape_put_34 rfl ?_
  refine P_getf (i := 1) d_Tape_put_35 ok_Tape (by decide) L_Tape_15 ((n1 _ (by decide)).trans h153) rfl ?_
  refine P_iconst (v := 1) d_Tape_put_38 (by decide) ?_
  refine P_iadd d_Tape_put_39 ?_
  show PW _ _ _ _ _ _ (40, [(0, .ref 153), (1, .int a1), (2, .int 24)], [.int 9, .ref 153], w1)
  refine P_putG (i := 1) d_Tape_put_40 ok_Tape (by decide) rfl L_Tape_15 ((n1 _ (by decide)).trans h153) (fun _ => rfl) (fun _ => rfl) (fun w2 e2 s2 n2 z2 => ?_)
  show PW _ _ _ _ _ _ (43, [(0, .ref 153), (1, .int a1), (2, .int 24)], [], w2)
  refine P_iinc (v := 16) d_Tape_put_43 (by decide) rfl (by decide) rfl ?_
  refine P_goto 3 d_Tape_put_46 (by decide) ?_
  refine P_iload_n d_Tape_put_3 rfl ?_
  refine P_if_lt 49 d_Tape_put_4 (by decide) (fun h => absurd h (by decide)) (fun _ => ?_)
  refine P_aload_n d_Tape_put_7 rfl ?_
  refine P_getf (i := 1) d_Tape_put_8 ok_Tape (by decide) L_Tape_15 s2 rfl ?_
  refine P_sipush (v := 900) d_Tape_put_11 (by decide) ?_
  refine P_icmp_ge 49 d_Tape_put_14 (by decide) (fun h => absurd h (by decide)) (fun _ => ?_)
  refine P_aload_n d_Tape_put_17 rfl ?_
  refine P_getf (i := 0) d_Tape_put_18 ok_Tape (by decide) L_Tape_9 s2 rfl ?_
  refine P_aload_n d_Tape_put_21 rfl ?_
  refine P_getf (i := 1) d_Tape_put_22 ok_Tape (by decide) L_Tape_15 s2 rfl ?_
  refine P_iload_n d_Tape_put_25 rfl ?_
  refine P_iload_n d_Tape_put_26 rfl ?_
  refine P_iushr d_Tape_put_27 ?_
  refine P_sipush (v := 255) d_Tape_put_28 (by decide) ?_
  refine P_iand d_Tape_put_31 ?_
  refine P_iastG (j := 9) d_Tape_put_32 ((n2 _ (by decide)).trans s1) (by decide) ⟨by decide, by decide⟩ (by decide) (fun w3 e3 s3 n3 z3 => ?_)
  show PW _ _ _ _ _ _ (33, [(0, .ref 153), (1, .int a1), (2, .int 16)], [], w3)
  refine P_aload_n d_Tape_put_33 rfl ?_
  refine P_dup d_Tape_put_34 rfl ?_
  refine P_getf (i := 1) d_Tape_put_35 ok_Tape (by decide) L_Tape_15 ((n3 _ (by decide)).trans s2) rfl ?_
  refine P_iconst (v := 1) d_Tape_put_38 (by decide) ?_
  refine P_iadd d_Tape_put_39 ?_
  show PW _ _ _ _ _ _ (40, [(0, .ref 153), (1, .int a1), (2, .int 16)], [.int 10, .ref 153], w3)
  refine P_putG (i := 1) d_Tape_put_40 ok_Tape (by decide) rfl L_Tape_15 ((n3 _ (by decide)).trans s2) (fun _ => rfl) (fun _ => rfl) (fun w4 e4 s4 n4 z4 => ?_)
  show PW _ _ _ _ _ _ (43, [(0, .ref 153), (1, .int a1), (2, .int 16)], [], w4)
  refine P_iinc (v := 8) d_Tape_put_43 (by decide) rfl (by decide) rfl ?_
  refine P_goto 3 d_Tape_put_46 (by decide) ?_
  refine P_iload_n d_Tape_put_3 rfl ?_
  refine P_if_lt 49 d_Tape_put_4 (by decide) (fun h => absurd h (by decide)) (fun _ => ?_)
  refine P_aload_n d_Tape_put_7 rfl ?_
  refine P_getf (i := 1) d_Tape_put_8 ok_Tape (by decide) L_Tape_15 s4 rfl ?_
  refine P_sipush (v := 900) d_Tape_put_11 (by decide) ?_
  refine P_icmp_ge 49 d_Tape_put_14 (by decide) (fun h => absurd h (by decide)) (fun _ => ?_)
  refine P_aload_n d_Tape_put_17 rfl ?_
  refine P_getf (i := 0) d_Tape_put_18 ok_Tape (by decide) L_Tape_9 s4 rfl ?_
  refine P_aload_n d_Tape_put_21 rfl ?_
  refine P_getf (i := 1) d_Tape_put_22 ok_Tape (by decide) L_Tape_15 s4 rfl ?_
  refine P_iload_n d_Tape_put_25 rfl ?_
  refine P_iload_n d_Tape_put_26 rfl ?_
  refine P_iushr d_Tape_put_27 ?_
  refine P_sipush (v := 255) d_Tape_put_28 (by decide) ?_
  refine P_iand d_Tape_put_31 ?_
  refine P_iastG (j := 10) d_Tape_put_32 ((n4 _ (by decide)).trans s3) (by decide) ⟨by decide, by decide⟩ (by decide) (fun w5 e5 s5 n5 z5 => ?_)
  show PW _ _ _ _ _ _ (33, [(0, .ref 153), (1, .int a1), (2, .int 8)], [], w5)
  refine P_aload_n d_Tape_put_33 rfl ?_
  refine P_dup d_Tape_put_34 rfl ?_
  refine P_getf (i := 1) d_Tape_put_35 ok_Tape (by decide) L_Tape_15 ((n5 _ (by decide)).trans s4) rfl ?_
  refine P_iconst (v := 1) d_Tape_put_38 (by decide) ?_
  refine P_iadd d_Tape_put_39 ?_
  show PW _ _ _ _ _ _ (40, [(0, .ref 153), (1, .int a1), (2, .int 8)], [.int 11, .ref 153], w5)
  refine P_putG (i := 1) d_Tape_put_40 ok_Tape (by decide) rfl L_Tape_15 ((n5 _ (by decide)).trans s4) (fun _ => rfl) (fun _ => rfl) (fun w6 e6 s6 n6 z6 => ?_)
  show PW _ _ _ _ _ _ (43, [(0, .ref 153), (1, .int a1), (2, .int 8)], [], w6)
  refine P_iinc (v := 0) d_Tape_put_43 (by decide) rfl (by decide) rfl ?_
  refine P_goto 3 d_Tape_put_46 (by decide) ?_
  refine P_iload_n d_Tape_put_3 rfl ?_
  refine P_if_lt 49 d_Tape_put_4 (by decide) (fun h => absurd h (by decide)) (fun _ => ?_)
  refine P_aload_n d_Tape_put_7 rfl ?_
  refine P_getf (i := 1) d_Tape_put_8 ok_Tape (by decide) L_Tape_15 s6 rfl ?_
  refine P_sipush (v := 900) d_Tape_put_11 (by decide) ?_
  refine P_icmp_ge 49 d_Tape_put_14 (by decide) (fun h => absurd h (by decide)) (fun _ => ?_)
  refine P_aload_n d_Tape_put_17 rfl ?_
  refine P_getf (i := 0) d_Tape_put_18 ok_Tape (by decide) L_Tape_9 s6 rfl ?_
  refine P_aload_n d_Tape_put_21 rfl ?_
  refine P_getf (i := 1) d_Tape_put_22 ok_Tape (by decide) L_Tape_15 s6 rfl ?_
  refine P_iload_n d_Tape_put_25 rfl ?_
  refine P_iload_n d_Tape_put_26 rfl ?_
  refine P_iushr d_Tape_put_27 ?_
  refine P_sipush (v := 255) d_Tape_put_28 (by decide) ?_
  refine P_iand d_Tape_put_31 ?_
  refine P_iastG (j := 11) d_Tape_put_32 ((n6 _ (by decide)).trans s5) (by decide) ⟨by decide, by decide⟩ (by decide) (fun w7 e7 s7 n7 z7 => ?_)
  show PW _ _ _ _ _ _ (33, [(0, .ref 153), (1, .int a1), (2, .int 0)], [], w7)
  refine P_aload_n d_Tape_put_33 rfl ?_
  refine P_dup d_Tape_put_34 rfl ?_
  refine P_getf (i := 1) d_Tape_put_35 ok_Tape (by decide) L_Tape_15 ((n7 _ (by decide)).trans s6) rfl ?_
  refine P_iconst (v := 1) d_Tape_put_38 (by decide) ?_
  refine P_iadd d_Tape_put_39 ?_
  show PW _ _ _ _ _ _ (40, [(0, .ref 153), (1, .int a1), (2, .int 0)], [.int 12, .ref 153], w7)
  refine P_putG (i := 1) d_Tape_put_40 ok_Tape (by decide) rfl L_Tape_15 ((n7 _ (by decide)).trans s6) (fun _ => rfl) (fun _ => rfl) (fun w8 e8 s8 n8 z8 => ?_)
  show PW _ _ _ _ _ _ (43, [(0, .ref 153), (1, .int a1), (2, .int 0)], [], w8)
  refine P_iinc (v := (-8)) d_Tape_put_43 (by decide) rfl (by decide) rfl ?_
  refine P_goto 3 d_Tape_put_46 (by decide) ?_
  refine P_iload_n d_Tape_put_3 rfl ?_
  refine P_if_lt 49 d_Tape_put_4 (by decide) (fun _ => ?_) (fun h => absurd (by decide) h)
  exact P_vret d_Tape_put_49 rfl (le_b rfl) (le_b rfl) ⟨rfl, by rw [z8, z7, z6, z5, z4, z3, z2, z1], s8, ⟨_, ((n8 _ (by decide)).trans s7)⟩, fun i h1 h2 => ((n8 i (by assumption)).trans ((n7 i (by assumption)).trans ((n6 i (by assumption)).trans ((n5 i (by assumption)).trans ((n4 i (by assumption)).trans ((n3 i (by assumption)).trans ((n2 i (by assumption)).trans (n1 i (by assumption)))))))))⟩
theorem z_Tape_put_12 {G : pG} {w : pW} {f : Nat → Int32} (h153 : w.2 153 = .inr (2, [.ref 154, .int 12])) (h154 : w.2 154 = .inl (0, 900, .inl f)) (a1 : Int32) : PM G M_Tape_put 0 0 0 [.ref 153, .int a1] w (fun r w' => r = none ∧ w'.1 = w.1 ∧ w'.2 153 = .inr (2, [.ref 154, .int 16]) ∧ (∃ f' : Nat → Int32, w'.2 154 = .inl (0, 900, .inl f')) ∧ ∀ i, i ≠ 153 → i ≠ 154 → w'.2 i = w.2 i) := by
  refine PM_of pn_Tape_put (le_b rfl) ?_
  show PW _ _ _ _ _ _ (0, [(0, .ref 153), (1, .int a1)], [], w)
  refine P_bipush (v := 24) d_Tape_put_0 (by decide) ?_
  refine P_istore_n d_Tape_put_2 (by decide) rfl ?_
  refine P_iload_n d_Tape_put_3 rfl ?_
  refine P_if_lt 49 d_Tape_put_4 (by decide) (fun h => absurd h (by decide)) (fun _ => ?_)
  refine P_aload_n d_Tape_put_7 rfl ?_
  refine P_getf (i := 1) d_Tape_put_8 ok_Tape (by decide) L_Tape_15 h153 rfl ?_
  refine P_sipush (v := 900) d_Tape_put_11 (by decide) ?_
  refine P_icmp_ge 49 d_Tape_put_14 (by decide) (fun h => absurd h (by decide)) (fun _ => ?_)
  refine P_aload_n d_Tape_put_17 rfl ?_
  refine P_getf (i := 0) d_Tape_put_18 ok_Tape (by decide) L_Tape_9 h153 rfl ?_
  refine P_aload_n d_Tape_put_21 rfl ?_
  refine P_getf (i := 1) d_Tape_put_22 ok_Tape (by decide) L_Tape_15 h153 rfl ?_
  refine P_iload_n d_Tape_put_25 rfl ?_
  refine P_iload_n d_Tape_put_26 rfl ?_
  refine P_iushr d_Tape_put_27 ?_
  refine P_sipush (v := 255) d_Tape_put_28 (by decide) ?_
  refine P_iand d_Tape_put_31 ?_
  refine P_iastG (j := 12) d_Tape_put_32 h154 (by decide) ⟨by decide, by decide⟩ (by decide) (fun w1 e1 s1 n1 z1 => ?_)
  show PW _ _ _ _ _ _ (33, [(0, .ref 153), (1, .int a1), (2, .int 24)], [], w1)
  refine P_aload_n d_Tape_put_33 rfl ?_
  refine P_dup d_Tape_put_34 rfl ?_
  refine P_getf (i := 1) d_Tape_put_35 ok_Tape (by decide) L_Tape_15 ((n1 _ (by decide)).trans h153) rfl ?_
  refine P_iconst (v := 1) d_Tape_put_38 (by decide) ?_
  refine P_iadd d_Tape_put_39 ?_
  show PW _ _ _ _ _ _ (40, [(0, .ref 153), (1, .int a1), (2, .int 24)], [.int 13, .ref 153], w1)
  refine P_putG (i := 1) d_Tape_put_40 ok_Tape (by decide) rfl L_Tape_15 ((n1 _ (by decide)).trans h153) (fun _ => rfl) (fun _ => rfl) (fun w2 e2 s2 n2 z2 => ?_)
  show PW _ _ _ _ _ _ (43, [(0, .ref 153), (1, .int a1), (2, .int 24)], [], w2)
  refine P_iinc (v := 16) d_Tape_put_43 (by decide) rfl (by decide) rfl ?_
  refine P_goto 3 d_Tape_put_46 (by decide) ?_
  refine P_iload_n d_Tape_put_3 rfl ?_
  refine P_if_lt 49 d_Tape_put_4 (by decide) (fun h => absurd h (by decide)) (fun _ => ?_)
  refine P_aload_n d_Tape_put_7 rfl ?_
  refine P_getf (i := 1) d_Tape_put_8 ok_Tape (by decide) L_Tape_15 s2 rfl ?_
  refine P_sipush (v := 900) d_Tape_put_11 (by decide) ?_
  refine P_icmp_ge 49 d_Tape_put_14 (by decide) (fun h => absurd h (by decide)) (fun _ => ?_)
  refine P_aload_n d_Tape_put_17 rfl ?_
  refine P_getf (i := 0) d_Tape_put_18 ok_Tape (by decide) L_Tape_9 s2 rfl ?_
  refine P_aload_n d_Tape_put_21 rfl ?_
  refine P_getf (i := 1) d_Tape_put_22 ok_Tape (by decide) L_Tape_15 s2 rfl ?_
  refine P_iload_n d_Tape_put_25 rfl ?_
  refine P_iload_n d_Tape_put_26 rfl ?_
  refine P_iushr d_Tape_put_27 ?_
  refine P_sipush (v := 255) d_Tape_put_28 (by decide) ?_
  refine P_iand d_Tape_put_31 ?_
  refine P_iastG (j := 13) d_Tape_put_32 ((n2 _ (by decide)).trans s1) (by decide) ⟨by decide, by decide⟩ (by decide) (fun w3 e3 s3 n3 z3 => ?_)
  show PW _ _ _ _ _ _ (33, [(0, .ref 153), (1, .int a1), (2, .int 16)], [], w3)
  refine P_aload_n d_Tape_put_33 rfl ?_
  refine P_dup d_Tape_put_34 rfl ?_
  refine P_getf (i := 1) d_Tape_put_35 ok_Tape (by decide) L_Tape_15 ((n3 _ (by decide)).trans s2) rfl ?_
  refine P_iconst (v := 1) d_Tape_put_38 (by decide) ?_
  refine P_iadd d_Tape_put_39 ?_
  show PW _ _ _ _ _ _ (40, [(0, .ref 153), (1, .int a1), (2, .int 16)], [.int 14, .ref 153], w3)
  refine P_putG (i := 1) d_Tape_put_40 ok_Tape (by decide) rfl L_Tape_15 ((n3 _ (by decide)).trans s2) (fun _ => rfl) (fun _ => rfl) (fun w4 e4 s4 n4 z4 => ?_)
  show PW _ _ _ _ _ _ (43, [(0, .ref 153), (1, .int a1), (2, .int 16)], [], w4)
  refine P_iinc (v := 8) d_Tape_put_43 (by decide) rfl (by decide) rfl ?_
  refine P_goto 3 d_Tape_put_46 (by decide) ?_
  refine P_iload_n d_Tape_put_3 rfl ?_
  refine P_if_lt 49 d_Tape_put_4 (by decide) (fun h => absurd h (by decide)) (fun _ => ?_)
  refine P_aload_n d_Tape_put_7 rfl ?_
  refine P_getf (i := 1) d_Tape_put_8 ok_Tape (by decide) L_Tape_15 s4 rfl ?_
  refine P_sipush (v := 900) d_Tape_put_11 (by decide) ?_
  refine P_icmp_ge 49 d_Tape_put_14 (by decide) (fun h => absurd h (by decide)) (fun _ => ?_)
  refine P_aload_n d_Tape_put_17 rfl ?_
  refine P_getf (i := 0) d_Tape_put_18 ok_Tape (by decide) L_Tape_9 s4 rfl ?_
  refine P_aload_n d_Tape_put_21 rfl ?_
  refine P_getf (i := 1) d_Tape_put_22 ok_Tape (by decide) L_Tape_15 s4 rfl ?_
  refine P_iload_n d_Tape_put_25 rfl ?_
  refine P_iload_n d_Tape_put_26 rfl ?_
  refine P_iushr d_Tape_put_27 ?_
  refine P_sipush (v := 255) d_Tape_put_28 (by decide) ?_
  refine P_iand d_Tape_put_31 ?_
  refine P_iastG (j := 14) d_Tape_put_32 ((n4 _ (by decide)).trans s3) (by decide) ⟨by decide, by decide⟩ (by decide) (fun w5 e5 s5 n5 z5 => ?_)
  show PW _ _ _ _ _ _ (33, [(0, .ref 153), (1, .int a1), (2, .int 8)], [], w5)
  refine P_aload_n d_Tape_put_33 rfl ?_
  refine P_dup d_Tape_put_34 rfl ?_
  refine P_getf (i := 1) d_Tape_put_35 ok_Tape (by decide) L_Tape_15 ((n5 _ (by decide)).trans s4) rfl ?_
  refine P_iconst (v := 1) d_Tape_put_38 (by decide) ?_
  refine P_iadd d_Tape_put_39 ?_
  show PW _ _ _ _ _ _ (40, [(0, .ref 153), (1, .int a1), (2, .int 8)], [.int 15, .ref 153], w5)
  refine P_putG (i := 1) d_Tape_put_40 ok_Tape (by decide) rfl L_Tape_15 ((n5 _ (by decide)).trans s4) (fun _ => rfl) (fun _ => rfl) (fun w6 e6 s6 n6 z6 => ?_)
  show PW _ _ _ _ _ _ (43, [(0, .ref 153), (1, .int a1), (2, .int 8)], [], w6)
  refine P_iinc (v := 0) d_Tape_put_43 (by decide) rfl (by decide) rfl ?_
  refine P_goto 3 d_Tape_put_46 (by decide) ?_
  refine P_iload_n d_Tape_put_3 rfl ?_
  refine P_if_lt 49 d_Tape_put_4 (by decide) (fun h => absurd h (by decide)) (fun _ => ?_)
  refine P_aload_n d_Tape_put_7 rfl ?_
  refine P_getf (i := 1) d_Tape_put_8 ok_Tape (by decide) L_Tape_15 s6 rfl ?_
  refine P_sipush (v := 900) d_Tape_put_11 (by decide) ?_
  refine P_icmp_ge 49 d_Tape_put_14 (by decide) (fun h => absurd h (by decide)) (fun _ => ?_)
  refine P_aload_n d_Tape_put_17 rfl ?_
  refine P_getf (i := 0) d_Tape_put_18 ok_Tape (by decide) L_Tape_9 s6 rfl ?_
  refine P_aload_n d_Tape_put_21 rfl ?_
  refine P_getf (i := 1) d_Tape_put_22 ok_Tape (by decide) L_Tape_15 s6 rfl ?_
  refine P_iload_n d_Tape_put_25 rfl ?_
  refine P_iload_n d_Tape_put_26 rfl ?_
  refine P_iushr d_Tape_put_27 ?_
  refine P_sipush (v := 255) d_Tape_put_28 (by decide) ?_
  refine P_iand d_Tape_put_31 ?_
  refine P_iastG (j := 15) d_Tape_put_32 ((n6 _ (by decide)).trans s5) (by decide) ⟨by decide, by decide⟩ (by decide) (fun w7 e7 s7 n7 z7 => ?_)
  show PW _ _ _ _ _ _ (33, [(0, .ref 153), (1, .int a1), (2, .int 0)], [], w7)
  refine P_aload_n d_Tape_put_33 rfl ?_
  refine P_dup d_Tape_put_34 rfl ?_
  refine P_getf (i := 1) d_Tape_put_35 ok_Tape (by decide) L_Tape_15 ((n7 _ (by decide)).trans s6) rfl ?_
  refine P_iconst (v := 1) d_Tape_put_38 (by decide) ?_
  refine P_iadd d_Tape_put_39 ?_
  show PW _ _ _ _ _ _ (40, [(0, .ref 153), (1, .int a1), (2, .int 0)], [.int 16, .ref 153], w7)
  refine P_putG (i := 1) d_Tape_put_40 ok_Tape (by decide) rfl L_Tape_15 ((n7 _ (by decide)).trans s6) (fun _ => rfl) (fun _ => rfl) (fun w8 e8 s8 n8 z8 => ?_)
  show PW _ _ _ _ _ _ (43, [(0, .ref 153), (1, .int a1), (2, .int 0)], [], w8)
  refine P_iinc (v := (-8)) d_Tape_put_43 (by decide) rfl (by decide) rfl ?_
  refine P_goto 3 d_Tape_put_46 (by decide) ?_
  refine P_iload_n d_Tape_put_3 rfl ?_
  refine P_if_lt 49 d_Tape_put_4 (by decide) (fun _ => ?_) (fun h => absurd (by decide) h)
  exact P_vret d_Tape_put_49 rfl (le_b rfl) (le_b rfl) ⟨rfl, by rw [z8, z7, z6, z5, z4, z3, z2, z1], s8, ⟨_, ((n8 _ (by decide)).trans s7)⟩, fun i h1 h2 => ((n8 i (by assumption)).trans ((n7 i (by assumption)).trans ((n6 i (by assumption)).trans ((n5 i (by assumption)).trans ((n4 i (by assumption)).trans ((n3 i (by assumption)).trans ((n2 i (by assumption)).trans (n1 i (by assumption)))))))))⟩
theorem z_Tape_put_16 {G : pG} {w : pW} {f : Nat → Int32} (h153 : w.2 153 = .inr (2, [.ref 154, .int 16])) (h154 : w.2 154 = .inl (0, 900, .inl f)) (a1 : Int32) : PM G M_Tape_put 0 0 0 [.ref 153, .int a1] w (fun r w' => r = none ∧ w'.1 = w.1 ∧ w'.2 153 = .inr (2, [.ref 154, .int 20]) ∧ (∃ f' : Nat → Int32, w'.2 154 = .inl (0, 900, .inl f')) ∧ ∀ i, i ≠ 153 → i ≠ 154 → w'.2 i = w.2 i) := by
  refine PM_of pn_Tape_put (le_b rfl) ?_
  show PW _ _ _ _ _ _ (0, [(0, .ref 153), (1, .int a1)], [], w)
  refine P_bipush (v := 24) d_Tape_put_0 (by decide) ?_
  refine P_istore_n d_Tape_put_2 (by decide) rfl ?_
  refine P_iload_n d_Tape_put_3 rfl ?_
  refine P_if_lt 49 d_Tape_put_4 (by decide) (fun h => absurd h (by decide)) (fun _ => ?_)
  refine P_aload_n d_Tape_put_7 rfl ?_
  refine P_getf (i := 1) d_Tape_put_8 ok_Tape (by decide) L_Tape_15 h153 rfl ?_
  refine P_sipush (v := 900) d_Tape_put_11 (by decide) ?_
  refine P_icmp_ge 49 d_Tape_put_14 (by decide) (fun h => absurd h (by decide)) (fun _ => ?_)
  refine P_aload_n d_Tape_put_17 rfl ?_
  refine P_getf (i := 0) d_Tape_put_18 ok_Tape (by decide) L_Tape_9 h153 rfl ?_
  refine P_aload_n d_Tape_put_21 rfl ?_
  refine P_getf (i := 1) d_Tape_put_22 ok_Tape (by decide) L_Tape_15 h153 rfl ?_
  refine P_iload_n d_Tape_put_25 rfl ?_
  refine P_iload_n d_Tape_put_26 rfl ?_
  refine P_iushr d_Tape_put_27 ?_
  refine P_sipush (v := 255) d_Tape_put_28 (by decide) ?_
  refine P_iand d_Tape_put_31 ?_
  refine P_iastG (j := 16) d_Tape_put_32 h154 (by decide) ⟨by decide, by decide⟩ (by decide) (fun w1 e1 s1 n1 z1 => ?_)
  show PW _ _ _ _ _ _ (33, [(0, .ref 153), (1, .int a1), (2, .int 24)], [], w1)
  refine P_aload_n d_Tape_put_33 rfl ?_
  refine P_dup d_Tape_put_34 rfl ?_
  refine P_getf (i := 1) d_Tape_put_35 ok_Tape (by decide) L_Tape_15 ((n1 _ (by decide)).trans h153) rfl ?_
  refine P_iconst (v := 1) d_Tape_put_38 (by decide) ?_
  refine P_iadd d_Tape_put_39 ?_
  show PW _ _ _ _ _ _ (40, [(0, .ref 153), (1, .int a1), (2, .int 24)], [.int 17, .ref 153], w1)
  refine P_putG (i := 1) d_Tape_put_40 ok_Tape (by decide) rfl L_Tape_15 ((n1 _ (by decide)).trans h153) (fun _ => rfl) (fun _ => rfl) (fun w2 e2 s2 n2 z2 => ?_)
  show PW _ _ _ _ _ _ (43, [(0, .ref 153), (1, .int a1), (2, .int 24)], [], w2)
  refine P_iinc (v := 16) d_Tape_put_43 (by decide) rfl (by decide) rfl ?_
  refine P_goto 3 d_Tape_put_46 (by decide) ?_
  refine P_iload_n d_Tape_put_3 rfl ?_
  refine P_if_lt 49 d_Tape_put_4 (by decide) (fun h => absurd h (by decide)) (fun _ => ?_)
  refine P_aload_n d_Tape_put_7 rfl ?_
  refine P_getf (i := 1) d_Tape_put_8 ok_Tape (by decide) L_Tape_15 s2 rfl ?_
  refine P_sipush (v := 900) d_Tape_put_11 (by decide) ?_
  refine P_icmp_ge 49 d_Tape_put_14 (by decide) (fun h => absurd h (by decide)) (fun _ => ?_)
  refine P_aload_n d_Tape_put_17 rfl ?_
  refine P_getf (i := 0) d_Tape_put_18 ok_Tape (by decide) L_Tape_9 s2 rfl ?_
  refine P_aload_n d_Tape_put_21 rfl ?_
  refine P_getf (i := 1) d_Tape_put_22 ok_Tape (by decide) L_Tape_15 s2 rfl ?_
  refine P_iload_n d_Tape_put_25 rfl ?_
  refine P_iload_n d_Tape_put_26 rfl ?_
  refine P_iushr d_Tape_put_27 ?_
  refine P_sipush (v := 255) d_Tape_put_28 (by decide) ?_
  refine P_iand d_Tape_put_31 ?_
  refine P_iastG (j := 17) d_Tape_put_32 ((n2 _ (by decide)).trans s1) (by decide) ⟨by decide, by decide⟩ (by decide) (fun w3 e3 s3 n3 z3 => ?_)
  show PW _ _ _ _ _ _ (33, [(0, .ref 153), (1, .int a1), (2, .int 16)], [], w3)
  refine P_aload_n d_Tape_put_33 rfl ?_
  refine P_dup d_Tape_put_34 rfl ?_
  refine P_getf (i := 1) d_Tape_put_35 ok_Tape (by decide) L_Tape_15 ((n3 _ (by decide)).trans s2) rfl ?_
  refine P_iconst (v := 1) d_Tape_put_38 (by decide) ?_
  refine P_iadd d_Tape_put_39 ?_
  show PW _ _ _ _ _ _ (40, [(0, .ref 153), (1, .int a1), (2, .int 16)], [.int 18, .ref 153], w3)
  refine P_putG (i := 1) d_Tape_put_40 ok_Tape (by decide) rfl L_Tape_15 ((n3 _ (by decide)).trans s2) (fun _ => rfl) (fun _ => rfl) (fun w4 e4 s4 n4 z4 => ?_)
  show PW _ _ _ _ _ _ (43, [(0, .ref 153), (1, .int a1), (2, .int 16)], [], w4)
  refine P_iinc (v := 8) d_Tape_put_43 (by decide) rfl (by decide) rfl ?_
  refine P_goto 3 d_Tape_put_46 (by decide) ?_
  refine P_iload_n d_Tape_put_3 rfl ?_
  refine P_if_lt 49 d_Tape_put_4 (by decide) (fun h => absurd h (by decide)) (fun _ => ?_)
  refine P_aload_n d_Tape_put_7 rfl ?_
  refine P_getf (i := 1) d_Tape_put_8 ok_Tape (by decide) L_Tape_15 s4 rfl ?_
  refine P_sipush (v := 900) d_Tape_put_11 (by decide) ?_
  refine P_icmp_ge 49 d_Tape_put_14 (by decide) (fun h => absurd h (by decide)) (fun _ => ?_)
  refine P_aload_n d_Tape_put_17 rfl ?_
  refine P_getf (i := 0) d_Tape_put_18 ok_Tape (by decide) L_Tape_9 s4 rfl ?_
  refine P_aload_n d_Tape_put_21 rfl ?_
  refine P_getf (i := 1) d_Tape_put_22 ok_Tape (by decide) L_Tape_15 s4 rfl ?_
  refine P_iload_n d_Tape_put_25 rfl ?_
  refine P_iload_n d_Tape_put_26 rfl ?_
  refine P_iushr d_Tape_put_27 ?_
  refine P_sipush (v := 255) d_Tape_put_28 (by decide) ?_
  refine P_iand d_Tape_put_31 ?_
  refine P_iastG (j := 18) d_Tape_put_32 ((n4 _ (by decide)).trans s3) (by decide) ⟨by decide, by decide⟩ (by decide) (fun w5 e5 s5 n5 z5 => ?_)
  show PW _ _ _ _ _ _ (33, [(0, .ref 153), (1, .int a1), (2, .int 8)], [], w5)
  refine P_aload_n d_Tape_put_33 rfl ?_
  refine P_dup d_Tape_put_34 rfl ?_
  refine P_getf (i := 1) d_Tape_put_35 ok_Tape (by decide) L_Tape_15 ((n5 _ (by decide)).trans s4) rfl ?_
  refine P_iconst (v := 1) d_Tape_put_38 (by decide) ?_
  refine P_iadd d_Tape_put_39 ?_
  show PW _ _ _ _ _ _ (40, [(0, .ref 153), (1, .int a1), (2, .int 8)], [.int 19, .ref 153], w5)
  refine P_putG (i := 1) d_Tape_put_40 ok_Tape (by decide) rfl L_Tape_15 ((n5 _ (by decide)).trans s4) (fun _ => rfl) (fun _ => rfl) (fun w6 e6 s6 n6 z6 => ?_)
  show PW _ _ _ _ _ _ (43, [(0, .ref 153), (1, .int a1), (2, .int 8)], [], w6)
  refine P_iinc (v := 0) d_Tape_put_43 (by decide) rfl (by decide) rfl ?_
  refine P_goto 3 d_Tape_put_46 (by decide) ?_
  refine P_iload_n d_Tape_put_3 rfl ?_
  refine P_if_lt 49 d_Tape_put_4 (by decide) (fun h => absurd h (by decide)) (fun _ => ?_)
  refine P_aload_n d_Tape_put_7 rfl ?_
  refine P_getf (i := 1) d_Tape_put_8 ok_Tape (by decide) L_Tape_15 s6 rfl ?_
  refine P_sipush (v := 900) d_Tape_put_11 (by decide) ?_
  refine P_icmp_ge 49 d_Tape_put_14 (by decide) (fun h => absurd h (by decide)) (fun _ => ?_)
  refine P_aload_n d_Tape_put_17 rfl ?_
  refine P_getf (i := 0) d_Tape_put_18 ok_Tape (by decide) L_Tape_9 s6 rfl ?_
  refine P_aload_n d_Tape_put_21 rfl ?_
  refine P_getf (i := 1) d_Tape_put_22 ok_Tape (by decide) L_Tape_15 s6 rfl ?_
  refine P_iload_n d_Tape_put_25 rfl ?_
  refine P_iload_n d_Tape_put_26 rfl ?_
  refine P_iushr d_Tape_put_27 ?_
  refine P_sipush (v := 255) d_Tape_put_28 (by decide) ?_
  refine P_iand d_Tape_put_31 ?_
  refine P_iastG (j := 19) d_Tape_put_32 ((n6 _ (by decide)).trans s5) (by decide) ⟨by decide, by decide⟩ (by decide) (fun w7 e7 s7 n7 z7 => ?_)
  show PW _ _ _ _ _ _ (33, [(0, .ref 153), (1, .int a1), (2, .int 0)], [], w7)
  refine P_aload_n d_Tape_put_33 rfl ?_
  refine P_dup d_Tape_put_34 rfl ?_
  refine P_getf (i := 1) d_Tape_put_35 ok_Tape (by decide) L_Tape_15 ((n7 _ (by decide)).trans s6) rfl ?_
  refine P_iconst (v := 1) d_Tape_put_38 (by decide) ?_
  refine P_iadd d_Tape_put_39 ?_
  show PW _ _ _ _ _ _ (40, [(0, .ref 153), (1, .int a1), (2, .int 0)], [.int 20, .ref 153], w7)
  refine P_putG (i := 1) d_Tape_put_40 ok_Tape (by decide) rfl L_Tape_15 ((n7 _ (by decide)).trans s6) (fun _ => rfl) (fun _ => rfl) (fun w8 e8 s8 n8 z8 => ?_)
  show PW _ _ _ _ _ _ (43, [(0, .ref 153), (1, .int a1), (2, .int 0)], [], w8)
  refine P_iinc (v := (-8)) d_Tape_put_43 (by decide) rfl (by decide) rfl ?_
  refine P_goto 3 d_Tape_put_46 (by decide) ?_
  refine P_iload_n d_Tape_put_3 rfl ?_
  refine P_if_lt 49 d_Tape_put_4 (by decide) (fun _ => ?_) (fun h => absurd (by decide) h)
  exact P_vret d_Tape_put_49 rfl (le_b rfl) (le_b rfl) ⟨rfl, by rw [z8, z7, z6, z5, z4, z3, z2, z1], s8, ⟨_, ((n8 _ (by decide)).trans s7)⟩, fun i h1 h2 => ((n8 i (by assumption)).trans ((n7 i (by assumption)).trans ((n6 i (by assumption)).trans ((n5 i (by assumption)).trans ((n4 i (by assumption)).trans ((n3 i (by assumption)).trans ((n2 i (by assumption)).trans (n1 i (by assumption)))))))))⟩
theorem z_CM_feed {G : pG} {w : pW} (hC : Has cfL w.2) (a1 a2 a3 a4 a5 : Int32) : PM G M_CM_feed 1 0 0 [.ref 0, .int a1, .int a2, .int a3, .int a4, .int a5] w (fun r w' => r = some (.int 20) ∧ w'.1 = w.1 ∧ ∀ i, 467 ≤ i → w'.2 i = w.2 i) := by
  refine PM_of pn_CM_feed (le_b rfl) ?_
  show PW _ _ _ _ _ _ (0, [(0, .ref 0), (1, .int a1), (2, .int a2), (3, .int a3), (4, .int a4), (5, .int a5)], [], w)
  refine P_aload_n d_CM_feed_0 rfl ?_
  refine P_getf (i := 2) d_CM_feed_1 ok_CM (by decide) L_CM_24 (fa hC 28 rfl) rfl ?_
  refine P_bipush (v := 20) d_CM_feed_4 (by decide) ?_
  refine P_callV (M := M_CM_feed) (pc := 6) (as := [.int 20]) (b := 153) d_CM_feed_6 co_Tape_hasRoomFor ok_Tape (fa hC 1 rfl) L_CM_99 im_Tape_hasRoomFor se_Tape_hasRoomFor (z_Tape_hasRoomFor (fa hC 1 rfl)) rfl ⟨by decide, by decide⟩ ⟨by decide, by decide⟩ (by exact le_b rfl) ?_ _ rfl
  rintro _ u ⟨rfl, eu⟩
  subst u
  show PW _ _ _ _ _ _ (9, [(0, .ref 0), (1, .int a1), (2, .int a2), (3, .int a3), (4, .int a4), (5, .int a5)], [.int 1], w)
  refine P_if_ne 14 d_CM_feed_9 (by decide) (fun _ => ?_) (fun h => absurd h (by decide))
  refine P_aload_n d_CM_feed_14 rfl ?_
  refine P_getf (i := 2) d_CM_feed_15 ok_CM (by decide) L_CM_24 (fa hC 28 rfl) rfl ?_
  refine P_iload_n d_CM_feed_18 rfl ?_
  refine P_callV (M := M_CM_feed) (pc := 19) (as := [.int a1]) (b := 153) d_CM_feed_19 co_Tape_put ok_Tape (fa hC 1 rfl) L_CM_103 im_Tape_put se_Tape_put (z_Tape_put_0 (fa hC 1 rfl) (fa hC 0 rfl) a1) rfl ⟨by decide, by decide⟩ ⟨by decide, by decide⟩ (by exact le_b rfl) ?_ _ rfl
  rintro _ w1 ⟨rfl, z1, s1, ⟨g1, t1⟩, n1⟩
  show PW _ _ _ _ _ _ (22, [(0, .ref 0), (1, .int a1), (2, .int a2), (3, .int a3), (4, .int a4), (5, .int a5)], [], w1)
  refine P_aload_n d_CM_feed_22 rfl ?_
  refine P_getf (i := 2) d_CM_feed_23 ok_CM (by decide) L_CM_24 ((n1 _ (by decide) (by decide)).trans (fa hC 28 rfl)) rfl ?_
  refine P_iload_n d_CM_feed_26 rfl ?_
  refine P_callV (M := M_CM_feed) (pc := 27) (as := [.int a2]) (b := 153) d_CM_feed_27 co_Tape_put ok_Tape s1 L_CM_103 im_Tape_put se_Tape_put (z_Tape_put_4 s1 t1 a2) rfl ⟨by decide, by decide⟩ ⟨by decide, by decide⟩ (by exact le_b rfl) ?_ _ rfl
  rintro _ w2 ⟨rfl, z2, s2, ⟨g2, t2⟩, n2⟩
  show PW _ _ _ _ _ _ (30, [(0, .ref 0), (1, .int a1), (2, .int a2), (3, .int a3), (4, .int a4), (5, .int a5)], [], w2)
  refine P_aload_n d_CM_feed_30 rfl ?_
  refine P_getf (i := 2) d_CM_feed_31 ok_CM (by decide) L_CM_24 ((n2 _ (by decide) (by decide)).trans ((n1 _ (by decide) (by decide)).trans (fa hC 28 rfl))) rfl ?_
  refine P_iload_n d_CM_feed_34 rfl ?_
  refine P_callV (M := M_CM_feed) (pc := 35) (as := [.int a3]) (b := 153) d_CM_feed_35 co_Tape_put ok_Tape s2 L_CM_103 im_Tape_put se_Tape_put (z_Tape_put_8 s2 t2 a3) rfl ⟨by decide, by decide⟩ ⟨by decide, by decide⟩ (by exact le_b rfl) ?_ _ rfl
  rintro _ w3 ⟨rfl, z3, s3, ⟨g3, t3⟩, n3⟩
  show PW _ _ _ _ _ _ (38, [(0, .ref 0), (1, .int a1), (2, .int a2), (3, .int a3), (4, .int a4), (5, .int a5)], [], w3)
  refine P_aload_n d_CM_feed_38 rfl ?_
  refine P_getf (i := 2) d_CM_feed_39 ok_CM (by decide) L_CM_24 ((n3 _ (by decide) (by decide)).trans ((n2 _ (by decide) (by decide)).trans ((n1 _ (by decide) (by decide)).trans (fa hC 28 rfl)))) rfl ?_
  refine P_iload d_CM_feed_42 rfl ?_
  refine P_callV (M := M_CM_feed) (pc := 44) (as := [.int a4]) (b := 153) d_CM_feed_44 co_Tape_put ok_Tape s3 L_CM_103 im_Tape_put se_Tape_put (z_Tape_put_12 s3 t3 a4) rfl ⟨by decide, by decide⟩ ⟨by decide, by decide⟩ (by exact le_b rfl) ?_ _ rfl
  rintro _ w4 ⟨rfl, z4, s4, ⟨g4, t4⟩, n4⟩
  show PW _ _ _ _ _ _ (47, [(0, .ref 0), (1, .int a1), (2, .int a2), (3, .int a3), (4, .int a4), (5, .int a5)], [], w4)
  refine P_aload_n d_CM_feed_47 rfl ?_
  refine P_getf (i := 2) d_CM_feed_48 ok_CM (by decide) L_CM_24 ((n4 _ (by decide) (by decide)).trans ((n3 _ (by decide) (by decide)).trans ((n2 _ (by decide) (by decide)).trans ((n1 _ (by decide) (by decide)).trans (fa hC 28 rfl))))) rfl ?_
  refine P_iload d_CM_feed_51 rfl ?_
  refine P_callV (M := M_CM_feed) (pc := 53) (as := [.int a5]) (b := 153) d_CM_feed_53 co_Tape_put ok_Tape s4 L_CM_103 im_Tape_put se_Tape_put (z_Tape_put_16 s4 t4 a5) rfl ⟨by decide, by decide⟩ ⟨by decide, by decide⟩ (by exact le_b rfl) ?_ _ rfl
  rintro _ w5 ⟨rfl, z5, s5, ⟨g5, t5⟩, n5⟩
  show PW _ _ _ _ _ _ (56, [(0, .ref 0), (1, .int a1), (2, .int a2), (3, .int a3), (4, .int a4), (5, .int a5)], [], w5)
  refine P_aload_n d_CM_feed_56 rfl ?_
  refine P_getf (i := 2) d_CM_feed_57 ok_CM (by decide) L_CM_24 ((n5 _ (by decide) (by decide)).trans ((n4 _ (by decide) (by decide)).trans ((n3 _ (by decide) (by decide)).trans ((n2 _ (by decide) (by decide)).trans ((n1 _ (by decide) (by decide)).trans (fa hC 28 rfl)))))) rfl ?_
  refine P_getfN (i := 1) d_CM_feed_60 ok_Tape (by decide) L_CM_107 s5 rfl ?_
  exact P_iret d_CM_feed_63 rfl (le_b rfl) (le_b rfl) ⟨rfl, by rw [z5, z4, z3, z2, z1], fun i hi => ((n5 i (by omega) (by omega)).trans ((n4 i (by omega) (by omega)).trans ((n3 i (by omega) (by omega)).trans ((n2 i (by omega) (by omega)).trans (n1 i (by omega) (by omega))))))⟩
theorem z_MD_feed {G : pG} {w : pW} (hM : Has mfL w.2) (a1 a2 a3 a4 a5 : Int32) : PM G M_MD_feed 0 0 0 [.ref 467, .int a1, .int a2, .int a3, .int a4, .int a5] w (fun r w' => r = some (.int 20) ∧ True) := by
  refine PM_of pn_MD_feed (le_b rfl) ?_
  show PW _ _ _ _ _ _ (0, [(0, .ref 467), (1, .int a1), (2, .int a2), (3, .int a3), (4, .int a4), (5, .int a5)], [], w)
  refine P_aload_n d_MD_feed_0 rfl ?_
  refine P_iconst (v := 0) d_MD_feed_1 (by decide) ?_
  refine P_putS (i := 0) d_MD_feed_2 ok_Model (by decide) rfl L_MD_74 (fa hM 18 rfl) (fun _ => rfl) (fun _ => rfl) rfl ?_
  refine P_aload_n d_MD_feed_5 rfl ?_
  refine P_getf (i := 2) d_MD_feed_6 ok_Model (by decide) L_MD_77 (fa hM 18 rfl) rfl ?_
  refine P_sipush (v := 880) d_MD_feed_9 (by decide) ?_
  refine P_icmp_le 17 d_MD_feed_12 (by decide) (fun _ => ?_) (fun h => absurd (by decide) h)
  refine P_iconst (v := 0) d_MD_feed_17 (by decide) ?_
  refine P_istore d_MD_feed_18 (by decide) rfl ?_
  refine P_iload d_MD_feed_20 rfl ?_
  refine P_bipush (v := 20) d_MD_feed_22 (by decide) ?_
  refine P_icmp_ge 110 d_MD_feed_24 (by decide) (fun h => absurd h (by decide)) (fun _ => ?_)
  refine P_iload d_MD_feed_27 rfl ?_
  refine P_iconst (v := 4) d_MD_feed_29 (by decide) ?_
  refine P_icmp_ge 37 d_MD_feed_30 (by decide) (fun h => absurd h (by decide)) (fun _ => ?_)
  refine P_iload_n d_MD_feed_33 rfl ?_
  refine P_goto 73 d_MD_feed_34 (by decide) ?_
  refine P_istore d_MD_feed_73 (by decide) rfl ?_
  refine P_aload_n d_MD_feed_75 rfl ?_
  refine P_getf (i := 1) d_MD_feed_76 ok_Model (by decide) L_MD_9 (fa hM 18 rfl) rfl ?_
  refine P_aload_n d_MD_feed_79 rfl ?_
  refine P_getf (i := 2) d_MD_feed_80 ok_Model (by decide) L_MD_77 (fa hM 18 rfl) rfl ?_
  refine P_iload d_MD_feed_83 rfl ?_
  refine P_iadd d_MD_feed_85 ?_
  show PW _ _ _ _ _ _ (86, [(0, .ref 467), (1, .int a1), (2, .int a2), (3, .int a3), (4, .int a4), (5, .int a5), (6, .int 0), (7, .int a1)], [.int 0, .ref 468], w)
  refine P_iload d_MD_feed_86 rfl ?_
  refine P_bipush (v := 24) d_MD_feed_88 (by decide) ?_
  refine P_bipush (v := 8) d_MD_feed_90 (by decide) ?_
  refine P_iload d_MD_feed_92 rfl ?_
  refine P_iconst (v := 4) d_MD_feed_94 (by decide) ?_
  refine P_irem d_MD_feed_95 (by decide) ?_
  show PW _ _ _ _ _ _ (96, [(0, .ref 467), (1, .int a1), (2, .int a2), (3, .int a3), (4, .int a4), (5, .int a5), (6, .int 0), (7, .int a1)], [.int 0, .int 8, .int 24, .int a1, .int 0, .ref 468], w)
  refine P_imul d_MD_feed_96 ?_
  show PW _ _ _ _ _ _ (97, [(0, .ref 467), (1, .int a1), (2, .int a2), (3, .int a3), (4, .int a4), (5, .int a5), (6, .int 0), (7, .int a1)], [.int 0, .int 24, .int a1, .int 0, .ref 468], w)
  refine P_isub d_MD_feed_97 ?_
  show PW _ _ _ _ _ _ (98, [(0, .ref 467), (1, .int a1), (2, .int a2), (3, .int a3), (4, .int a4), (5, .int a5), (6, .int 0), (7, .int a1)], [.int 24, .int a1, .int 0, .ref 468], w)
  refine P_ishr d_MD_feed_98 ?_
  refine P_sipush (v := 255) d_MD_feed_99 (by decide) ?_
  refine P_iand d_MD_feed_102 ?_
  refine P_iastG (j := 0) d_MD_feed_103 (fa hM 0 rfl) (by decide) ⟨by decide, by decide⟩ (by decide) (fun w1 e1 s1 n1 z1 => ?_)
  show PW _ _ _ _ _ _ (104, [(0, .ref 467), (1, .int a1), (2, .int a2), (3, .int a3), (4, .int a4), (5, .int a5), (6, .int 0), (7, .int a1)], [], w1)
  refine P_iinc (v := 1) d_MD_feed_104 (by decide) rfl (by decide) rfl ?_
  refine P_goto 20 d_MD_feed_107 (by decide) ?_
  refine P_iload d_MD_feed_20 rfl ?_
  refine P_bipush (v := 20) d_MD_feed_22 (by decide) ?_
  refine P_icmp_ge 110 d_MD_feed_24 (by decide) (fun h => absurd h (by decide)) (fun _ => ?_)
  refine P_iload d_MD_feed_27 rfl ?_
  refine P_iconst (v := 4) d_MD_feed_29 (by decide) ?_
  refine P_icmp_ge 37 d_MD_feed_30 (by decide) (fun h => absurd h (by decide)) (fun _ => ?_)
  refine P_iload_n d_MD_feed_33 rfl ?_
  refine P_goto 73 d_MD_feed_34 (by decide) ?_
  refine P_istore d_MD_feed_73 (by decide) rfl ?_
  refine P_aload_n d_MD_feed_75 rfl ?_
  refine P_getf (i := 1) d_MD_feed_76 ok_Model (by decide) L_MD_9 ((n1 _ (by decide)).trans (fa hM 18 rfl)) rfl ?_
  refine P_aload_n d_MD_feed_79 rfl ?_
  refine P_getf (i := 2) d_MD_feed_80 ok_Model (by decide) L_MD_77 ((n1 _ (by decide)).trans (fa hM 18 rfl)) rfl ?_
  refine P_iload d_MD_feed_83 rfl ?_
  refine P_iadd d_MD_feed_85 ?_
  show PW _ _ _ _ _ _ (86, [(0, .ref 467), (1, .int a1), (2, .int a2), (3, .int a3), (4, .int a4), (5, .int a5), (6, .int 1), (7, .int a1)], [.int 1, .ref 468], w1)
  refine P_iload d_MD_feed_86 rfl ?_
  refine P_bipush (v := 24) d_MD_feed_88 (by decide) ?_
  refine P_bipush (v := 8) d_MD_feed_90 (by decide) ?_
  refine P_iload d_MD_feed_92 rfl ?_
  refine P_iconst (v := 4) d_MD_feed_94 (by decide) ?_
  refine P_irem d_MD_feed_95 (by decide) ?_
  show PW _ _ _ _ _ _ (96, [(0, .ref 467), (1, .int a1), (2, .int a2), (3, .int a3), (4, .int a4), (5, .int a5), (6, .int 1), (7, .int a1)], [.int 1, .int 8, .int 24, .int a1, .int 1, .ref 468], w1)
  refine P_imul d_MD_feed_96 ?_
  show PW _ _ _ _ _ _ (97, [(0, .ref 467), (1, .int a1), (2, .int a2), (3, .int a3), (4, .int a4), (5, .int a5), (6, .int 1), (7, .int a1)], [.int 8, .int 24, .int a1, .int 1, .ref 468], w1)
  refine P_isub d_MD_feed_97 ?_
  show PW _ _ _ _ _ _ (98, [(0, .ref 467), (1, .int a1), (2, .int a2), (3, .int a3), (4, .int a4), (5, .int a5), (6, .int 1), (7, .int a1)], [.int 16, .int a1, .int 1, .ref 468], w1)
  refine P_ishr d_MD_feed_98 ?_
  refine P_sipush (v := 255) d_MD_feed_99 (by decide) ?_
  refine P_iand d_MD_feed_102 ?_
  refine P_iastG (j := 1) d_MD_feed_103 s1 (by decide) ⟨by decide, by decide⟩ (by decide) (fun w2 e2 s2 n2 z2 => ?_)
  show PW _ _ _ _ _ _ (104, [(0, .ref 467), (1, .int a1), (2, .int a2), (3, .int a3), (4, .int a4), (5, .int a5), (6, .int 1), (7, .int a1)], [], w2)
  refine P_iinc (v := 2) d_MD_feed_104 (by decide) rfl (by decide) rfl ?_
  refine P_goto 20 d_MD_feed_107 (by decide) ?_
  refine P_iload d_MD_feed_20 rfl ?_
  refine P_bipush (v := 20) d_MD_feed_22 (by decide) ?_
  refine P_icmp_ge 110 d_MD_feed_24 (by decide) (fun h => absurd h (by decide)) (fun _ => ?_)
  refine P_iload d_MD_feed_27 rfl ?_
  refine P_iconst (v := 4) d_MD_feed_29 (by decide) ?_
  refine P_icmp_ge 37 d_MD_feed_30 (by decide) (fun h => absurd h (by decide)) (fun _ => ?_)
  refine P_iload_n d_MD_feed_33 rfl ?_
  refine P_goto 73 d_MD_feed_34 (by decide) ?_
  refine P_istore d_MD_feed_73 (by decide) rfl ?_
  refine P_aload_n d_MD_feed_75 rfl ?_
  refine P_getf (i := 1) d_MD_feed_76 ok_Model (by decide) L_MD_9 ((n2 _ (by decide)).trans ((n1 _ (by decide)).trans (fa hM 18 rfl))) rfl ?_
  refine P_aload_n d_MD_feed_79 rfl ?_
  refine P_getf (i := 2) d_MD_feed_80 ok_Model (by decide) L_MD_77 ((n2 _ (by decide)).trans ((n1 _ (by decide)).trans (fa hM 18 rfl))) rfl ?_
  refine P_iload d_MD_feed_83 rfl ?_
  refine P_iadd d_MD_feed_85 ?_
  show PW _ _ _ _ _ _ (86, [(0, .ref 467), (1, .int a1), (2, .int a2), (3, .int a3), (4, .int a4), (5, .int a5), (6, .int 2), (7, .int a1)], [.int 2, .ref 468], w2)
  refine P_iload d_MD_feed_86 rfl ?_
  refine P_bipush (v := 24) d_MD_feed_88 (by decide) ?_
  refine P_bipush (v := 8) d_MD_feed_90 (by decide) ?_
  refine P_iload d_MD_feed_92 rfl ?_
  refine P_iconst (v := 4) d_MD_feed_94 (by decide) ?_
  refine P_irem d_MD_feed_95 (by decide) ?_
  show PW _ _ _ _ _ _ (96, [(0, .ref 467), (1, .int a1), (2, .int a2), (3, .int a3), (4, .int a4), (5, .int a5), (6, .int 2), (7, .int a1)], [.int 2, .int 8, .int 24, .int a1, .int 2, .ref 468], w2)
  refine P_imul d_MD_feed_96 ?_
  show PW _ _ _ _ _ _ (97, [(0, .ref 467), (1, .int a1), (2, .int a2), (3, .int a3), (4, .int a4), (5, .int a5), (6, .int 2), (7, .int a1)], [.int 16, .int 24, .int a1, .int 2, .ref 468], w2)
  refine P_isub d_MD_feed_97 ?_
  show PW _ _ _ _ _ _ (98, [(0, .ref 467), (1, .int a1), (2, .int a2), (3, .int a3), (4, .int a4), (5, .int a5), (6, .int 2), (7, .int a1)], [.int 8, .int a1, .int 2, .ref 468], w2)
  refine P_ishr d_MD_feed_98 ?_
  refine P_sipush (v := 255) d_MD_feed_99 (by decide) ?_
  refine P_iand d_MD_feed_102 ?_
  refine P_iastG (j := 2) d_MD_feed_103 s2 (by decide) ⟨by decide, by decide⟩ (by decide) (fun w3 e3 s3 n3 z3 => ?_)
  show PW _ _ _ _ _ _ (104, [(0, .ref 467), (1, .int a1), (2, .int a2), (3, .int a3), (4, .int a4), (5, .int a5), (6, .int 2), (7, .int a1)], [], w3)
  refine P_iinc (v := 3) d_MD_feed_104 (by decide) rfl (by decide) rfl ?_
  refine P_goto 20 d_MD_feed_107 (by decide) ?_
  refine P_iload d_MD_feed_20 rfl ?_
  refine P_bipush (v := 20) d_MD_feed_22 (by decide) ?_
  refine P_icmp_ge 110 d_MD_feed_24 (by decide) (fun h => absurd h (by decide)) (fun _ => ?_)
  refine P_iload d_MD_feed_27 rfl ?_
  refine P_iconst (v := 4) d_MD_feed_29 (by decide) ?_
  refine P_icmp_ge 37 d_MD_feed_30 (by decide) (fun h => absurd h (by decide)) (fun _ => ?_)
  refine P_iload_n d_MD_feed_33 rfl ?_
  refine P_goto 73 d_MD_feed_34 (by decide) ?_
  refine P_istore d_MD_feed_73 (by decide) rfl ?_
  refine P_aload_n d_MD_feed_75 rfl ?_
  refine P_getf (i := 1) d_MD_feed_76 ok_Model (by decide) L_MD_9 ((n3 _ (by decide)).trans ((n2 _ (by decide)).trans ((n1 _ (by decide)).trans (fa hM 18 rfl)))) rfl ?_
  refine P_aload_n d_MD_feed_79 rfl ?_
  refine P_getf (i := 2) d_MD_feed_80 ok_Model (by decide) L_MD_77 ((n3 _ (by decide)).trans ((n2 _ (by decide)).trans ((n1 _ (by decide)).trans (fa hM 18 rfl)))) rfl ?_
  refine P_iload d_MD_feed_83 rfl ?_
  refine P_iadd d_MD_feed_85 ?_
  show PW _ _ _ _ _ _ (86, [(0, .ref 467), (1, .int a1), (2, .int a2), (3, .int a3), (4, .int a4), (5, .int a5), (6, .int 3), (7, .int a1)], [.int 3, .ref 468], w3)
  refine P_iload d_MD_feed_86 rfl ?_
  refine P_bipush (v := 24) d_MD_feed_88 (by decide) ?_
  refine P_bipush (v := 8) d_MD_feed_90 (by decide) ?_
  refine P_iload d_MD_feed_92 rfl ?_
  refine P_iconst (v := 4) d_MD_feed_94 (by decide) ?_
  refine P_irem d_MD_feed_95 (by decide) ?_
  show PW _ _ _ _ _ _ (96, [(0, .ref 467), (1, .int a1), (2, .int a2), (3, .int a3), (4, .int a4), (5, .int a5), (6, .int 3), (7, .int a1)], [.int 3, .int 8, .int 24, .int a1, .int 3, .ref 468], w3)
  refine P_imul d_MD_feed_96 ?_
  show PW _ _ _ _ _ _ (97, [(0, .ref 467), (1, .int a1), (2, .int a2), (3, .int a3), (4, .int a4), (5, .int a5), (6, .int 3), (7, .int a1)], [.int 24, .int 24, .int a1, .int 3, .ref 468], w3)
  refine P_isub d_MD_feed_97 ?_
  show PW _ _ _ _ _ _ (98, [(0, .ref 467), (1, .int a1), (2, .int a2), (3, .int a3), (4, .int a4), (5, .int a5), (6, .int 3), (7, .int a1)], [.int 0, .int a1, .int 3, .ref 468], w3)
  refine P_ishr d_MD_feed_98 ?_
  refine P_sipush (v := 255) d_MD_feed_99 (by decide) ?_
  refine P_iand d_MD_feed_102 ?_
  refine P_iastG (j := 3) d_MD_feed_103 s3 (by decide) ⟨by decide, by decide⟩ (by decide) (fun w4 e4 s4 n4 z4 => ?_)
  show PW _ _ _ _ _ _ (104, [(0, .ref 467), (1, .int a1), (2, .int a2), (3, .int a3), (4, .int a4), (5, .int a5), (6, .int 3), (7, .int a1)], [], w4)
  refine P_iinc (v := 4) d_MD_feed_104 (by decide) rfl (by decide) rfl ?_
  refine P_goto 20 d_MD_feed_107 (by decide) ?_
  refine P_iload d_MD_feed_20 rfl ?_
  refine P_bipush (v := 20) d_MD_feed_22 (by decide) ?_
  refine P_icmp_ge 110 d_MD_feed_24 (by decide) (fun h => absurd h (by decide)) (fun _ => ?_)
  refine P_iload d_MD_feed_27 rfl ?_
  refine P_iconst (v := 4) d_MD_feed_29 (by decide) ?_
  refine P_icmp_ge 37 d_MD_feed_30 (by decide) (fun _ => ?_) (fun h => absurd (by decide) h)
  refine P_iload d_MD_feed_37 rfl ?_
  refine P_bipush (v := 8) d_MD_feed_39 (by decide) ?_
  refine P_icmp_ge 48 d_MD_feed_41 (by decide) (fun h => absurd h (by decide)) (fun _ => ?_)
  refine P_iload_n d_MD_feed_44 rfl ?_
  refine P_goto 73 d_MD_feed_45 (by decide) ?_
  refine P_istore d_MD_feed_73 (by decide) rfl ?_
  refine P_aload_n d_MD_feed_75 rfl ?_
  refine P_getf (i := 1) d_MD_feed_76 ok_Model (by decide) L_MD_9 ((n4 _ (by decide)).trans ((n3 _ (by decide)).trans ((n2 _ (by decide)).trans ((n1 _ (by decide)).trans (fa hM 18 rfl))))) rfl ?_
  refine P_aload_n d_MD_feed_79 rfl ?_
  refine P_getf (i := 2) d_MD_feed_80 ok_Model (by decide) L_MD_77 ((n4 _ (by decide)).trans ((n3 _ (by decide)).trans ((n2 _ (by decide)).trans ((n1 _ (by decide)).trans (fa hM 18 rfl))))) rfl ?_
  refine P_iload d_MD_feed_83 rfl ?_
  refine P_iadd d_MD_feed_85 ?_
  show PW _ _ _ _ _ _ (86, [(0, .ref 467), (1, .int a1), (2, .int a2), (3, .int a3), (4, .int a4), (5, .int a5), (6, .int 4), (7, .int a2)], [.int 4, .ref 468], w4)
  refine P_iload d_MD_feed_86 rfl ?_
  refine P_bipush (v := 24) d_MD_feed_88 (by decide) ?_
  refine P_bipush (v := 8) d_MD_feed_90 (by decide) ?_
  refine P_iload d_MD_feed_92 rfl ?_
  refine P_iconst (v := 4) d_MD_feed_94 (by decide) ?_
  refine P_irem d_MD_feed_95 (by decide) ?_
  show PW _ _ _ _ _ _ (96, [(0, .ref 467), (1, .int a1), (2, .int a2), (3, .int a3), (4, .int a4), (5, .int a5), (6, .int 4), (7, .int a2)], [.int 0, .int 8, .int 24, .int a2, .int 4, .ref 468], w4)
  refine P_imul d_MD_feed_96 ?_
  show PW _ _ _ _ _ _ (97, [(0, .ref 467), (1, .int a1), (2, .int a2), (3, .int a3), (4, .int a4), (5, .int a5), (6, .int 4), (7, .int a2)], [.int 0, .int 24, .int a2, .int 4, .ref 468], w4)
  refine P_isub d_MD_feed_97 ?_
  show PW _ _ _ _ _ _ (98, [(0, .ref 467), (1, .int a1), (2, .int a2), (3, .int a3), (4, .int a4), (5, .int a5), (6, .int 4), (7, .int a2)], [.int 24, .int a2, .int 4, .ref 468], w4)
  refine P_ishr d_MD_feed_98 ?_
  refine P_sipush (v := 255) d_MD_feed_99 (by decide) ?_
  refine P_iand d_MD_feed_102 ?_
  refine P_iastG (j := 4) d_MD_feed_103 s4 (by decide) ⟨by decide, by decide⟩ (by decide) (fun w5 e5 s5 n5 z5 => ?_)
  show PW _ _ _ _ _ _ (104, [(0, .ref 467), (1, .int a1), (2, .int a2), (3, .int a3), (4, .int a4), (5, .int a5), (6, .int 4), (7, .int a2)], [], w5)
  refine P_iinc (v := 5) d_MD_feed_104 (by decide) rfl (by decide) rfl ?_
  refine P_goto 20 d_MD_feed_107 (by decide) ?_
  refine P_iload d_MD_feed_20 rfl ?_
  refine P_bipush (v := 20) d_MD_feed_22 (by decide) ?_
  refine P_icmp_ge 110 d_MD_feed_24 (by decide) (fun h => absurd h (by decide)) (fun _ => ?_)
  refine P_iload d_MD_feed_27 rfl ?_
  refine P_iconst (v := 4) d_MD_feed_29 (by decide) ?_
  refine P_icmp_ge 37 d_MD_feed_30 (by decide) (fun _ => ?_) (fun h => absurd (by decide) h)
  refine P_iload d_MD_feed_37 rfl ?_
  refine P_bipush (v := 8) d_MD_feed_39 (by decide) ?_
  refine P_icmp_ge 48 d_MD_feed_41 (by decide) (fun h => absurd h (by decide)) (fun _ => ?_)
  refine P_iload_n d_MD_feed_44 rfl ?_
  refine P_goto 73 d_MD_feed_45 (by decide) ?_
  refine P_istore d_MD_feed_73 (by decide) rfl ?_
  refine P_aload_n d_MD_feed_75 rfl ?_
  refine P_getf (i := 1) d_MD_feed_76 ok_Model (by decide) L_MD_9 ((n5 _ (by decide)).trans ((n4 _ (by decide)).trans ((n3 _ (by decide)).trans ((n2 _ (by decide)).trans ((n1 _ (by decide)).trans (fa hM 18 rfl)))))) rfl ?_
  refine P_aload_n d_MD_feed_79 rfl ?_
  refine P_getf (i := 2) d_MD_feed_80 ok_Model (by decide) L_MD_77 ((n5 _ (by decide)).trans ((n4 _ (by decide)).trans ((n3 _ (by decide)).trans ((n2 _ (by decide)).trans ((n1 _ (by decide)).trans (fa hM 18 rfl)))))) rfl ?_
  refine P_iload d_MD_feed_83 rfl ?_
  refine P_iadd d_MD_feed_85 ?_
  show PW _ _ _ _ _ _ (86, [(0, .ref 467), (1, .int a1), (2, .int a2), (3, .int a3), (4, .int a4), (5, .int a5), (6, .int 5), (7, .int a2)], [.int 5, .ref 468], w5)
  refine P_iload d_MD_feed_86 rfl ?_
  refine P_bipush (v := 24) d_MD_feed_88 (by decide) ?_
  refine P_bipush (v := 8) d_MD_feed_90 (by decide) ?_
  refine P_iload d_MD_feed_92 rfl ?_
  refine P_iconst (v := 4) d_MD_feed_94 (by decide) ?_
  refine P_irem d_MD_feed_95 (by decide) ?_
  show PW _ _ _ _ _ _ (96, [(0, .ref 467), (1, .int a1), (2, .int a2), (3, .int a3), (4, .int a4), (5, .int a5), (6, .int 5), (7, .int a2)], [.int 1, .int 8, .int 24, .int a2, .int 5, .ref 468], w5)
  refine P_imul d_MD_feed_96 ?_
  show PW _ _ _ _ _ _ (97, [(0, .ref 467), (1, .int a1), (2, .int a2), (3, .int a3), (4, .int a4), (5, .int a5), (6, .int 5), (7, .int a2)], [.int 8, .int 24, .int a2, .int 5, .ref 468], w5)
  refine P_isub d_MD_feed_97 ?_
  show PW _ _ _ _ _ _ (98, [(0, .ref 467), (1, .int a1), (2, .int a2), (3, .int a3), (4, .int a4), (5, .int a5), (6, .int 5), (7, .int a2)], [.int 16, .int a2, .int 5, .ref 468], w5)
  refine P_ishr d_MD_feed_98 ?_
  refine P_sipush (v := 255) d_MD_feed_99 (by decide) ?_
  refine P_iand d_MD_feed_102 ?_
  refine P_iastG (j := 5) d_MD_feed_103 s5 (by decide) ⟨by decide, by decide⟩ (by decide) (fun w6 e6 s6 n6 z6 => ?_)
  show PW _ _ _ _ _ _ (104, [(0, .ref 467), (1, .int a1), (2, .int a2), (3, .int a3), (4, .int a4), (5, .int a5), (6, .int 5), (7, .int a2)], [], w6)
  refine P_iinc (v := 6) d_MD_feed_104 (by decide) rfl (by decide) rfl ?_
  refine P_goto 20 d_MD_feed_107 (by decide) ?_
  refine P_iload d_MD_feed_20 rfl ?_
  refine P_bipush (v := 20) d_MD_feed_22 (by decide) ?_
  refine P_icmp_ge 110 d_MD_feed_24 (by decide) (fun h => absurd h (by decide)) (fun _ => ?_)
  refine P_iload d_MD_feed_27 rfl ?_
  refine P_iconst (v := 4) d_MD_feed_29 (by decide) ?_
  refine P_icmp_ge 37 d_MD_feed_30 (by decide) (fun _ => ?_) (fun h => absurd (by decide) h)
  refine P_iload d_MD_feed_37 rfl ?_
  refine P_bipush (v := 8) d_MD_feed_39 (by decide) ?_
  refine P_icmp_ge 48 d_MD_feed_41 (by decide) (fun h => absurd h (by decide)) (fun _ => ?_)
  refine P_iload_n d_MD_feed_44 rfl ?_
  refine P_goto 73 d_MD_feed_45 (by decide) ?_
  refine P_istore d_MD_feed_73 (by decide) rfl ?_
  refine P_aload_n d_MD_feed_75 rfl ?_
  refine P_getf (i := 1) d_MD_feed_76 ok_Model (by decide) L_MD_9 ((n6 _ (by decide)).trans ((n5 _ (by decide)).trans ((n4 _ (by decide)).trans ((n3 _ (by decide)).trans ((n2 _ (by decide)).trans ((n1 _ (by decide)).trans (fa hM 18 rfl))))))) rfl ?_
  refine P_aload_n d_MD_feed_79 rfl ?_
  refine P_getf (i := 2) d_MD_feed_80 ok_Model (by decide) L_MD_77 ((n6 _ (by decide)).trans ((n5 _ (by decide)).trans ((n4 _ (by decide)).trans ((n3 _ (by decide)).trans ((n2 _ (by decide)).trans ((n1 _ (by decide)).trans (fa hM 18 rfl))))))) rfl ?_
  refine P_iload d_MD_feed_83 rfl ?_
  refine P_iadd d_MD_feed_85 ?_
  show PW _ _ _ _ _ _ (86, [(0, .ref 467), (1, .int a1), (2, .int a2), (3, .int a3), (4, .int a4), (5, .int a5), (6, .int 6), (7, .int a2)], [.int 6, .ref 468], w6)
  refine P_iload d_MD_feed_86 rfl ?_
  refine P_bipush (v := 24) d_MD_feed_88 (by decide) ?_
  refine P_bipush (v := 8) d_MD_feed_90 (by decide) ?_
  refine P_iload d_MD_feed_92 rfl ?_
  refine P_iconst (v := 4) d_MD_feed_94 (by decide) ?_
  refine P_irem d_MD_feed_95 (by decide) ?_
  show PW _ _ _ _ _ _ (96, [(0, .ref 467), (1, .int a1), (2, .int a2), (3, .int a3), (4, .int a4), (5, .int a5), (6, .int 6), (7, .int a2)], [.int 2, .int 8, .int 24, .int a2, .int 6, .ref 468], w6)
  refine P_imul d_MD_feed_96 ?_
  show PW _ _ _ _ _ _ (97, [(0, .ref 467), (1, .int a1), (2, .int a2), (3, .int a3), (4, .int a4), (5, .int a5), (6, .int 6), (7, .int a2)], [.int 16, .int 24, .int a2, .int 6, .ref 468], w6)
  refine P_isub d_MD_feed_97 ?_
  show PW _ _ _ _ _ _ (98, [(0, .ref 467), (1, .int a1), (2, .int a2), (3, .int a3), (4, .int a4), (5, .int a5), (6, .int 6), (7, .int a2)], [.int 8, .int a2, .int 6, .ref 468], w6)
  refine P_ishr d_MD_feed_98 ?_
  refine P_sipush (v := 255) d_MD_feed_99 (by decide) ?_
  refine P_iand d_MD_feed_102 ?_
  refine P_iastG (j := 6) d_MD_feed_103 s6 (by decide) ⟨by decide, by decide⟩ (by decide) (fun w7 e7 s7 n7 z7 => ?_)
  show PW _ _ _ _ _ _ (104, [(0, .ref 467), (1, .int a1), (2, .int a2), (3, .int a3), (4, .int a4), (5, .int a5), (6, .int 6), (7, .int a2)], [], w7)
  refine P_iinc (v := 7) d_MD_feed_104 (by decide) rfl (by decide) rfl ?_
  refine P_goto 20 d_MD_feed_107 (by decide) ?_
  refine P_iload d_MD_feed_20 rfl ?_
  refine P_bipush (v := 20) d_MD_feed_22 (by decide) ?_
  refine P_icmp_ge 110 d_MD_feed_24 (by decide) (fun h => absurd h (by decide)) (fun _ => ?_)
  refine P_iload d_MD_feed_27 rfl ?_
  refine P_iconst (v := 4) d_MD_feed_29 (by decide) ?_
  refine P_icmp_ge 37 d_MD_feed_30 (by decide) (fun _ => ?_) (fun h => absurd (by decide) h)
  refine P_iload d_MD_feed_37 rfl ?_
  refine P_bipush (v := 8) d_MD_feed_39 (by decide) ?_
  refine P_icmp_ge 48 d_MD_feed_41 (by decide) (fun h => absurd h (by decide)) (fun _ => ?_)
  refine P_iload_n d_MD_feed_44 rfl ?_
  refine P_goto 73 d_MD_feed_45 (by decide) ?_
  refine P_istore d_MD_feed_73 (by decide) rfl ?_
  refine P_aload_n d_MD_feed_75 rfl ?_
  refine P_getf (i := 1) d_MD_feed_76 ok_Model (by decide) L_MD_9 ((n7 _ (by decide)).trans ((n6 _ (by decide)).trans ((n5 _ (by decide)).trans ((n4 _ (by decide)).trans ((n3 _ (by decide)).trans ((n2 _ (by decide)).trans ((n1 _ (by decide)).trans (fa hM 18 rfl)))))))) rfl ?_
  refine P_aload_n d_MD_feed_79 rfl ?_
  refine P_getf (i := 2) d_MD_feed_80 ok_Model (by decide) L_MD_77 ((n7 _ (by decide)).trans ((n6 _ (by decide)).trans ((n5 _ (by decide)).trans ((n4 _ (by decide)).trans ((n3 _ (by decide)).trans ((n2 _ (by decide)).trans ((n1 _ (by decide)).trans (fa hM 18 rfl)))))))) rfl ?_
  refine P_iload d_MD_feed_83 rfl ?_
  refine P_iadd d_MD_feed_85 ?_
  show PW _ _ _ _ _ _ (86, [(0, .ref 467), (1, .int a1), (2, .int a2), (3, .int a3), (4, .int a4), (5, .int a5), (6, .int 7), (7, .int a2)], [.int 7, .ref 468], w7)
  refine P_iload d_MD_feed_86 rfl ?_
  refine P_bipush (v := 24) d_MD_feed_88 (by decide) ?_
  refine P_bipush (v := 8) d_MD_feed_90 (by decide) ?_
  refine P_iload d_MD_feed_92 rfl ?_
  refine P_iconst (v := 4) d_MD_feed_94 (by decide) ?_
  refine P_irem d_MD_feed_95 (by decide) ?_
  show PW _ _ _ _ _ _ (96, [(0, .ref 467), (1, .int a1), (2, .int a2), (3, .int a3), (4, .int a4), (5, .int a5), (6, .int 7), (7, .int a2)], [.int 3, .int 8, .int 24, .int a2, .int 7, .ref 468], w7)
  refine P_imul d_MD_feed_96 ?_
  show PW _ _ _ _ _ _ (97, [(0, .ref 467), (1, .int a1), (2, .int a2), (3, .int a3), (4, .int a4), (5, .int a5), (6, .int 7), (7, .int a2)], [.int 24, .int 24, .int a2, .int 7, .ref 468], w7)
  refine P_isub d_MD_feed_97 ?_
  show PW _ _ _ _ _ _ (98, [(0, .ref 467), (1, .int a1), (2, .int a2), (3, .int a3), (4, .int a4), (5, .int a5), (6, .int 7), (7, .int a2)], [.int 0, .int a2, .int 7, .ref 468], w7)
  refine P_ishr d_MD_feed_98 ?_
  refine P_sipush (v := 255) d_MD_feed_99 (by decide) ?_
  refine P_iand d_MD_feed_102 ?_
  refine P_iastG (j := 7) d_MD_feed_103 s7 (by decide) ⟨by decide, by decide⟩ (by decide) (fun w8 e8 s8 n8 z8 => ?_)
  show PW _ _ _ _ _ _ (104, [(0, .ref 467), (1, .int a1), (2, .int a2), (3, .int a3), (4, .int a4), (5, .int a5), (6, .int 7), (7, .int a2)], [], w8)
  refine P_iinc (v := 8) d_MD_feed_104 (by decide) rfl (by decide) rfl ?_
  refine P_goto 20 d_MD_feed_107 (by decide) ?_
  refine P_iload d_MD_feed_20 rfl ?_
  refine P_bipush (v := 20) d_MD_feed_22 (by decide) ?_
  refine P_icmp_ge 110 d_MD_feed_24 (by decide) (fun h => absurd h (by decide)) (fun _ => ?_)
  refine P_iload d_MD_feed_27 rfl ?_
  refine P_iconst (v := 4) d_MD_feed_29 (by decide) ?_
  refine P_icmp_ge 37 d_MD_feed_30 (by decide) (fun _ => ?_) (fun h => absurd (by decide) h)
  refine P_iload d_MD_feed_37 rfl ?_
  refine P_bipush (v := 8) d_MD_feed_39 (by decide) ?_
  refine P_icmp_ge 48 d_MD_feed_41 (by decide) (fun _ => ?_) (fun h => absurd (by decide) h)
  refine P_iload d_MD_feed_48 rfl ?_
  refine P_bipush (v := 12) d_MD_feed_50 (by decide) ?_
  refine P_icmp_ge 59 d_MD_feed_52 (by decide) (fun h => absurd h (by decide)) (fun _ => ?_)
  refine P_iload_n d_MD_feed_55 rfl ?_
  refine P_goto 73 d_MD_feed_56 (by decide) ?_
  refine P_istore d_MD_feed_73 (by decide) rfl ?_
  refine P_aload_n d_MD_feed_75 rfl ?_
  refine P_getf (i := 1) d_MD_feed_76 ok_Model (by decide) L_MD_9 ((n8 _ (by decide)).trans ((n7 _ (by decide)).trans ((n6 _ (by decide)).trans ((n5 _ (by decide)).trans ((n4 _ (by decide)).trans ((n3 _ (by decide)).trans ((n2 _ (by decide)).trans ((n1 _ (by decide)).trans (fa hM 18 rfl))))))))) rfl ?_
  refine P_aload_n d_MD_feed_79 rfl ?_
  refine P_getf (i := 2) d_MD_feed_80 ok_Model (by decide) L_MD_77 ((n8 _ (by decide)).trans ((n7 _ (by decide)).trans ((n6 _ (by decide)).trans ((n5 _ (by decide)).trans ((n4 _ (by decide)).trans ((n3 _ (by decide)).trans ((n2 _ (by decide)).trans ((n1 _ (by decide)).trans (fa hM 18 rfl))))))))) rfl ?_
  refine P_iload d_MD_feed_83 rfl ?_
  refine P_iadd d_MD_feed_85 ?_
  show PW _ _ _ _ _ _ (86, [(0, .ref 467), (1, .int a1), (2, .int a2), (3, .int a3), (4, .int a4), (5, .int a5), (6, .int 8), (7, .int a3)], [.int 8, .ref 468], w8)
  refine P_iload d_MD_feed_86 rfl ?_
  refine P_bipush (v := 24) d_MD_feed_88 (by decide) ?_
  refine P_bipush (v := 8) d_MD_feed_90 (by decide) ?_
  refine P_iload d_MD_feed_92 rfl ?_
  refine P_iconst (v := 4) d_MD_feed_94 (by decide) ?_
  refine P_irem d_MD_feed_95 (by decide) ?_
  show PW _ _ _ _ _ _ (96, [(0, .ref 467), (1, .int a1), (2, .int a2), (3, .int a3), (4, .int a4), (5, .int a5), (6, .int 8), (7, .int a3)], [.int 0, .int 8, .int 24, .int a3, .int 8, .ref 468], w8)
  refine P_imul d_MD_feed_96 ?_
  show PW _ _ _ _ _ _ (97, [(0, .ref 467), (1, .int a1), (2, .int a2), (3, .int a3), (4, .int a4), (5, .int a5), (6, .int 8), (7, .int a3)], [.int 0, .int 24, .int a3, .int 8, .ref 468], w8)
  refine P_isub d_MD_feed_97 ?_
  show PW _ _ _ _ _ _ (98, [(0, .ref 467), (1, .int a1), (2, .int a2), (3, .int a3), (4, .int a4), (5, .int a5), (6, .int 8), (7, .int a3)], [.int 24, .int a3, .int 8, .ref 468], w8)
  refine P_ishr d_MD_feed_98 ?_
  refine P_sipush (v := 255) d_MD_feed_99 (by decide) ?_
  refine P_iand d_MD_feed_102 ?_
  refine P_iastG (j := 8) d_MD_feed_103 s8 (by decide) ⟨by decide, by decide⟩ (by decide) (fun w9 e9 s9 n9 z9 => ?_)
  show PW _ _ _ _ _ _ (104, [(0, .ref 467), (1, .int a1), (2, .int a2), (3, .int a3), (4, .int a4), (5, .int a5), (6, .int 8), (7, .int a3)], [], w9)
  refine P_iinc (v := 9) d_MD_feed_104 (by decide) rfl (by decide) rfl ?_
  refine P_goto 20 d_MD_feed_107 (by decide) ?_
  refine P_iload d_MD_feed_20 rfl ?_
  refine P_bipush (v := 20) d_MD_feed_22 (by decide) ?_
  refine P_icmp_ge 110 d_MD_feed_24 (by decide) (fun h => absurd h (by decide)) (fun _ => ?_)
  refine P_iload d_MD_feed_27 rfl ?_
  refine P_iconst (v := 4) d_MD_feed_29 (by decide) ?_
  refine P_icmp_ge 37 d_MD_feed_30 (by decide) (fun _ => ?_) (fun h => absurd (by decide) h)
  refine P_iload d_MD_feed_37 rfl ?_
  refine P_bipush (v := 8) d_MD_feed_39 (by decide) ?_
  refine P_icmp_ge 48 d_MD_feed_41 (by decide) (fun _ => ?_) (fun h => absurd (by decide) h)
  refine P_iload d_MD_feed_48 rfl ?_
  refine P_bipush (v := 12) d_MD_feed_50 (by decide) ?_
  refine P_icmp_ge 59 d_MD_feed_52 (by decide) (fun h => absurd h (by decide)) (fun _ => ?_)
  refine P_iload_n d_MD_feed_55 rfl ?_
  refine P_goto 73 d_MD_feed_56 (by decide) ?_
  refine P_istore d_MD_feed_73 (by decide) rfl ?_
  refine P_aload_n d_MD_feed_75 rfl ?_
  refine P_getf (i := 1) d_MD_feed_76 ok_Model (by decide) L_MD_9 ((n9 _ (by decide)).trans ((n8 _ (by decide)).trans ((n7 _ (by decide)).trans ((n6 _ (by decide)).trans ((n5 _ (by decide)).trans ((n4 _ (by decide)).trans ((n3 _ (by decide)).trans ((n2 _ (by decide)).trans ((n1 _ (by decide)).trans (fa hM 18 rfl)))))))))) rfl ?_
  refine P_aload_n d_MD_feed_79 rfl ?_
  refine P_getf (i := 2) d_MD_feed_80 ok_Model (by decide) L_MD_77 ((n9 _ (by decide)).trans ((n8 _ (by decide)).trans ((n7 _ (by decide)).trans ((n6 _ (by decide)).trans ((n5 _ (by decide)).trans ((n4 _ (by decide)).trans ((n3 _ (by decide)).trans ((n2 _ (by decide)).trans ((n1 _ (by decide)).trans (fa hM 18 rfl)))))))))) rfl ?_
  refine P_iload d_MD_feed_83 rfl ?_
  refine P_iadd d_MD_feed_85 ?_
  show PW _ _ _ _ _ _ (86, [(0, .ref 467), (1, .int a1), (2, .int a2), (3, .int a3), (4, .int a4), (5, .int a5), (6, .int 9), (7, .int a3)], [.int 9, .ref 468], w9)
  refine P_iload d_MD_feed_86 rfl ?_
  refine P_bipush (v := 24) d_MD_feed_88 (by decide) ?_
  refine P_bipush (v := 8) d_MD_feed_90 (by decide) ?_
  refine P_iload d_MD_feed_92 rfl ?_
  refine P_iconst (v := 4) d_MD_feed_94 (by decide) ?_
  refine P_irem d_MD_feed_95 (by decide) ?_
  show PW _ _ _ _ _ _ (96, [(0, .ref 467), (1, .int a1), (2, .int a2), (3, .int a3), (4, .int a4), (5, .int a5), (6, .int 9), (7, .int a3)], [.int 1, .int 8, .int 24, .int a3, .int 9, .ref 468], w9)
  refine P_imul d_MD_feed_96 ?_
  show PW _ _ _ _ _ _ (97, [(0, .ref 467), (1, .int a1), (2, .int a2), (3, .int a3), (4, .int a4), (5, .int a5), (6, .int 9), (7, .int a3)], [.int 8, .int 24, .int a3, .int 9, .ref 468], w9)
  refine P_isub d_MD_feed_97 ?_
  show PW _ _ _ _ _ _ (98, [(0, .ref 467), (1, .int a1), (2, .int a2), (3, .int a3), (4, .int a4), (5, .int a5), (6, .int 9), (7, .int a3)], [.int 16, .int a3, .int 9, .ref 468], w9)
  refine P_ishr d_MD_feed_98 ?_
  refine P_sipush (v := 255) d_MD_feed_99 (by decide) ?_
  refine P_iand d_MD_feed_102 ?_
  refine P_iastG (j := 9) d_MD_feed_103 s9 (by decide) ⟨by decide, by decide⟩ (by decide) (fun w10 e10 s10 n10 z10 => ?_)
  show PW _ _ _ _ _ _ (104, [(0, .ref 467), (1, .int a1), (2, .int a2), (3, .int a3), (4, .int a4), (5, .int a5), (6, .int 9), (7, .int a3)], [], w10)
  refine P_iinc (v := 10) d_MD_feed_104 (by decide) rfl (by decide) rfl ?_
  refine P_goto 20 d_MD_feed_107 (by decide) ?_
  refine P_iload d_MD_feed_20 rfl ?_
  refine P_bipush (v := 20) d_MD_feed_22 (by decide) ?_
  refine P_icmp_ge 110 d_MD_feed_24 (by decide) (fun h => absurd h (by decide)) (fun _ => ?_)
  refine P_iload d_MD_feed_27 rfl ?_
  refine P_iconst (v := 4) d_MD_feed_29 (by decide) ?_
  refine P_icmp_ge 37 d_MD_feed_30 (by decide) (fun _ => ?_) (fun h => absurd (by decide) h)
  refine P_iload d_MD_feed_37 rfl ?_
  refine P_bipush (v := 8) d_MD_feed_39 (by decide) ?_
  refine P_icmp_ge 48 d_MD_feed_41 (by decide) (fun _ => ?_) (fun h => absurd (by decide) h)
  refine P_iload d_MD_feed_48 rfl ?_
  refine P_bipush (v := 12) d_MD_feed_50 (by decide) ?_
  refine P_icmp_ge 59 d_MD_feed_52 (by decide) (fun h => absurd h (by decide)) (fun _ => ?_)
  refine P_iload_n d_MD_feed_55 rfl ?_
  refine P_goto 73 d_MD_feed_56 (by decide) ?_
  refine P_istore d_MD_feed_73 (by decide) rfl ?_
  refine P_aload_n d_MD_feed_75 rfl ?_
  refine P_getf (i := 1) d_MD_feed_76 ok_Model (by decide) L_MD_9 ((n10 _ (by decide)).trans ((n9 _ (by decide)).trans ((n8 _ (by decide)).trans ((n7 _ (by decide)).trans ((n6 _ (by decide)).trans ((n5 _ (by decide)).trans ((n4 _ (by decide)).trans ((n3 _ (by decide)).trans ((n2 _ (by decide)).trans ((n1 _ (by decide)).trans (fa hM 18 rfl))))))))))) rfl ?_
  refine P_aload_n d_MD_feed_79 rfl ?_
  refine P_getf (i := 2) d_MD_feed_80 ok_Model (by decide) L_MD_77 ((n10 _ (by decide)).trans ((n9 _ (by decide)).trans ((n8 _ (by decide)).trans ((n7 _ (by decide)).trans ((n6 _ (by decide)).trans ((n5 _ (by decide)).trans ((n4 _ (by decide)).trans ((n3 _ (by decide)).trans ((n2 _ (by decide)).trans ((n1 _ (by decide)).trans (fa hM 18 rfl))))))))))) rfl ?_
  refine P_iload d_MD_feed_83 rfl ?_
  refine P_iadd d_MD_feed_85 ?_
  show PW _ _ _ _ _ _ (86, [(0, .ref 467), (1, .int a1), (2, .int a2), (3, .int a3), (4, .int a4), (5, .int a5), (6, .int 10), (7, .int a3)], [.int 10, .ref 468], w10)
  refine P_iload d_MD_feed_86 rfl ?_
  refine P_bipush (v := 24) d_MD_feed_88 (by decide) ?_
  refine P_bipush (v := 8) d_MD_feed_90 (by decide) ?_
  refine P_iload d_MD_feed_92 rfl ?_
  refine P_iconst (v := 4) d_MD_feed_94 (by decide) ?_
  refine P_irem d_MD_feed_95 (by decide) ?_
  show PW _ _ _ _ _ _ (96, [(0, .ref 467), (1, .int a1), (2, .int a2), (3, .int a3), (4, .int a4), (5, .int a5), (6, .int 10), (7, .int a3)], [.int 2, .int 8, .int 24, .int a3, .int 10, .ref 468], w10)
  refine P_imul d_MD_feed_96 ?_
  show PW _ _ _ _ _ _ (97, [(0, .ref 467), (1, .int a1), (2, .int a2), (3, .int a3), (4, .int a4), (5, .int a5), (6, .int 10), (7, .int a3)], [.int 16, .int 24, .int a3, .int 10, .ref 468], w10)
  refine P_isub d_MD_feed_97 ?_
  show PW _ _ _ _ _ _ (98, [(0, .ref 467), (1, .int a1), (2, .int a2), (3, .int a3), (4, .int a4), (5, .int a5), (6, .int 10), (7, .int a3)], [.int 8, .int a3, .int 10, .ref 468], w10)
  refine P_ishr d_MD_feed_98 ?_
  refine P_sipush (v := 255) d_MD_feed_99 (by decide) ?_
  refine P_iand d_MD_feed_102 ?_
  refine P_iastG (j := 10) d_MD_feed_103 s10 (by decide) ⟨by decide, by decide⟩ (by decide) (fun w11 e11 s11 n11 z11 => ?_)
  show PW _ _ _ _ _ _ (104, [(0, .ref 467), (1, .int a1), (2, .int a2), (3, .int a3), (4, .int a4), (5, .int a5), (6, .int 10), (7, .int a3)], [], w11)
  refine P_iinc (v := 11) d_MD_feed_104 (by decide) rfl (by decide) rfl ?_
  refine P_goto 20 d_MD_feed_107 (by decide) ?_
  refine P_iload d_MD_feed_20 rfl ?_
  refine P_bipush (v := 20) d_MD_feed_22 (by decide) ?_
  refine P_icmp_ge 110 d_MD_feed_24 (by decide) (fun h => absurd h (by decide)) (fun _ => ?_)
  refine P_iload d_MD_feed_27 rfl ?_
  refine P_iconst (v := 4) d_MD_feed_29 (by decide) ?_
  refine P_icmp_ge 37 d_MD_feed_30 (by decide) (fun _ => ?_) (fun h => absurd (by decide) h)
  refine P_iload d_MD_feed_37 rfl ?_
  refine P_bipush (v := 8) d_MD_feed_39 (by decide) ?_
  refine P_icmp_ge 48 d_MD_feed_41 (by decide) (fun _ => ?_) (fun h => absurd (by decide) h)
  refine P_iload d_MD_feed_48 rfl ?_
  refine P_bipush (v := 12) d_MD_feed_50 (by decide) ?_
  refine P_icmp_ge 59 d_MD_feed_52 (by decide) (fun h => absurd h (by decide)) (fun _ => ?_)
  refine P_iload_n d_MD_feed_55 rfl ?_
  refine P_goto 73 d_MD_feed_56 (by decide) ?_
  refine P_istore d_MD_feed_73 (by decide) rfl ?_
  refine P_aload_n d_MD_feed_75 rfl ?_
  refine P_getf (i := 1) d_MD_feed_76 ok_Model (by decide) L_MD_9 ((n11 _ (by decide)).trans ((n10 _ (by decide)).trans ((n9 _ (by decide)).trans ((n8 _ (by decide)).trans ((n7 _ (by decide)).trans ((n6 _ (by decide)).trans ((n5 _ (by decide)).trans ((n4 _ (by decide)).trans ((n3 _ (by decide)).trans ((n2 _ (by decide)).trans ((n1 _ (by decide)).trans (fa hM 18 rfl)))))))))))) rfl ?_
  refine P_aload_n d_MD_feed_79 rfl ?_
  refine P_getf (i := 2) d_MD_feed_80 ok_Model (by decide) L_MD_77 ((n11 _ (by decide)).trans ((n10 _ (by decide)).trans ((n9 _ (by decide)).trans ((n8 _ (by decide)).trans ((n7 _ (by decide)).trans ((n6 _ (by decide)).trans ((n5 _ (by decide)).trans ((n4 _ (by decide)).trans ((n3 _ (by decide)).trans ((n2 _ (by decide)).trans ((n1 _ (by decide)).trans (fa hM 18 rfl)))))))))))) rfl ?_
  refine P_iload d_MD_feed_83 rfl ?_
  refine P_iadd d_MD_feed_85 ?_
  show PW _ _ _ _ _ _ (86, [(0, .ref 467), (1, .int a1), (2, .int a2), (3, .int a3), (4, .int a4), (5, .int a5), (6, .int 11), (7, .int a3)], [.int 11, .ref 468], w11)
  refine P_iload d_MD_feed_86 rfl ?_
  refine P_bipush (v := 24) d_MD_feed_88 (by decide) ?_
  refine P_bipush (v := 8) d_MD_feed_90 (by decide) ?_
  refine P_iload d_MD_feed_92 rfl ?_
  refine P_iconst (v := 4) d_MD_feed_94 (by decide) ?_
  refine P_irem d_MD_feed_95 (by decide) ?_
  show PW _ _ _ _ _ _ (96, [(0, .ref 467), (1, .int a1), (2, .int a2), (3, .int a3), (4, .int a4), (5, .int a5), (6, .int 11), (7, .int a3)], [.int 3, .int 8, .int 24, .int a3, .int 11, .ref 468], w11)
  refine P_imul d_MD_feed_96 ?_
  show PW _ _ _ _ _ _ (97, [(0, .ref 467), (1, .int a1), (2, .int a2), (3, .int a3), (4, .int a4), (5, .int a5), (6, .int 11), (7, .int a3)], [.int 24, .int 24, .int a3, .int 11, .ref 468], w11)
  refine P_isub d_MD_feed_97 ?_
  show PW _ _ _ _ _ _ (98, [(0, .ref 467), (1, .int a1), (2, .int a2), (3, .int a3), (4, .int a4), (5, .int a5), (6, .int 11), (7, .int a3)], [.int 0, .int a3, .int 11, .ref 468], w11)
  refine P_ishr d_MD_feed_98 ?_
  refine P_sipush (v := 255) d_MD_feed_99 (by decide) ?_
  refine P_iand d_MD_feed_102 ?_
  refine P_iastG (j := 11) d_MD_feed_103 s11 (by decide) ⟨by decide, by decide⟩ (by decide) (fun w12 e12 s12 n12 z12 => ?_)
  show PW _ _ _ _ _ _ (104, [(0, .ref 467), (1, .int a1), (2, .int a2), (3, .int a3), (4, .int a4), (5, .int a5), (6, .int 11), (7, .int a3)], [], w12)
  refine P_iinc (v := 12) d_MD_feed_104 (by decide) rfl (by decide) rfl ?_
  refine P_goto 20 d_MD_feed_107 (by decide) ?_
  refine P_iload d_MD_feed_20 rfl ?_
  refine P_bipush (v := 20) d_MD_feed_22 (by decide) ?_
  refine P_icmp_ge 110 d_MD_feed_24 (by decide) (fun h => absurd h (by decide)) (fun _ => ?_)
  refine P_iload d_MD_feed_27 rfl ?_
  refine P_iconst (v := 4) d_MD_feed_29 (by decide) ?_
  refine P_icmp_ge 37 d_MD_feed_30 (by decide) (fun _ => ?_) (fun h => absurd (by decide) h)
  refine P_iload d_MD_feed_37 rfl ?_
  refine P_bipush (v := 8) d_MD_feed_39 (by decide) ?_
  refine P_icmp_ge 48 d_MD_feed_41 (by decide) (fun _ => ?_) (fun h => absurd (by decide) h)
  refine P_iload d_MD_feed_48 rfl ?_
  refine P_bipush (v := 12) d_MD_feed_50 (by decide) ?_
  refine P_icmp_ge 59 d_MD_feed_52 (by decide) (fun _ => ?_) (fun h => absurd (by decide) h)
  refine P_iload d_MD_feed_59 rfl ?_
  refine P_bipush (v := 16) d_MD_feed_61 (by decide) ?_
  refine P_icmp_ge 71 d_MD_feed_63 (by decide) (fun h => absurd h (by decide)) (fun _ => ?_)
  refine P_iload d_MD_feed_66 rfl ?_
  refine P_goto 73 d_MD_feed_68 (by decide) ?_
  refine P_istore d_MD_feed_73 (by decide) rfl ?_
  refine P_aload_n d_MD_feed_75 rfl ?_
  refine P_getf (i := 1) d_MD_feed_76 ok_Model (by decide) L_MD_9 ((n12 _ (by decide)).trans ((n11 _ (by decide)).trans ((n10 _ (by decide)).trans ((n9 _ (by decide)).trans ((n8 _ (by decide)).trans ((n7 _ (by decide)).trans ((n6 _ (by decide)).trans ((n5 _ (by decide)).trans ((n4 _ (by decide)).trans ((n3 _ (by decide)).trans ((n2 _ (by decide)).trans ((n1 _ (by decide)).trans (fa hM 18 rfl))))))))))))) rfl ?_
  refine P_aload_n d_MD_feed_79 rfl ?_
  refine P_getf (i := 2) d_MD_feed_80 ok_Model (by decide) L_MD_77 ((n12 _ (by decide)).trans ((n11 _ (by decide)).trans ((n10 _ (by decide)).trans ((n9 _ (by decide)).trans ((n8 _ (by decide)).trans ((n7 _ (by decide)).trans ((n6 _ (by decide)).trans ((n5 _ (by decide)).trans ((n4 _ (by decide)).trans ((n3 _ (by decide)).trans ((n2 _ (by decide)).trans ((n1 _ (by decide)).trans (fa hM 18 rfl))))))))))))) rfl ?_
  refine P_iload d_MD_feed_83 rfl ?_
  refine P_iadd d_MD_feed_85 ?_
  show PW _ _ _ _ _ _ (86, [(0, .ref 467), (1, .int a1), (2, .int a2), (3, .int a3), (4, .int a4), (5, .int a5), (6, .int 12), (7, .int a4)], [.int 12, .ref 468], w12)
  refine P_iload d_MD_feed_86 rfl ?_
  refine P_bipush (v := 24) d_MD_feed_88 (by decide) ?_
  refine P_bipush (v := 8) d_MD_feed_90 (by decide) ?_
  refine P_iload d_MD_feed_92 rfl ?_
  refine P_iconst (v := 4) d_MD_feed_94 (by decide) ?_
  refine P_irem d_MD_feed_95 (by decide) ?_
  show PW _ _ _ _ _ _ (96, [(0, .ref 467), (1, .int a1), (2, .int a2), (3, .int a3), (4, .int a4), (5, .int a5), (6, .int 12), (7, .int a4)], [.int 0, .int 8, .int 24, .int a4, .int 12, .ref 468], w12)
  refine P_imul d_MD_feed_96 ?_
  show PW _ _ _ _ _ _ (97, [(0, .ref 467), (1, .int a1), (2, .int a2), (3, .int a3), (4, .int a4), (5, .int a5), (6, .int 12), (7, .int a4)], [.int 0, .int 24, .int a4, .int 12, .ref 468], w12)
  refine P_isub d_MD_feed_97 ?_
  show PW _ _ _ _ _ _ (98, [(0, .ref 467), (1, .int a1), (2, .int a2), (3, .int a3), (4, .int a4), (5, .int a5), (6, .int 12), (7, .int a4)], [.int 24, .int a4, .int 12, .ref 468], w12)
  refine P_ishr d_MD_feed_98 ?_
  refine P_sipush (v := 255) d_MD_feed_99 (by decide) ?_
  refine P_iand d_MD_feed_102 ?_
  refine P_iastG (j := 12) d_MD_feed_103 s12 (by decide) ⟨by decide, by decide⟩ (by decide) (fun w13 e13 s13 n13 z13 => ?_)
  show PW _ _ _ _ _ _ (104, [(0, .ref 467), (1, .int a1), (2, .int a2), (3, .int a3), (4, .int a4), (5, .int a5), (6, .int 12), (7, .int a4)], [], w13)
  refine P_iinc (v := 13) d_MD_feed_104 (by decide) rfl (by decide) rfl ?_
  refine P_goto 20 d_MD_feed_107 (by decide) ?_
  refine P_iload d_MD_feed_20 rfl ?_
  refine P_bipush (v := 20) d_MD_feed_22 (by decide) ?_
  refine P_icmp_ge 110 d_MD_feed_24 (by decide) (fun h => absurd h (by decide)) (fun _ => ?_)
  refine P_iload d_MD_feed_27 rfl ?_
  refine P_iconst (v := 4) d_MD_feed_29 (by decide) ?_
  refine P_icmp_ge 37 d_MD_feed_30 (by decide) (fun _ => ?_) (fun h => absurd (by decide) h)
  refine P_iload d_MD_feed_37 rfl ?_
  refine P_bipush (v := 8) d_MD_feed_39 (by decide) ?_
  refine P_icmp_ge 48 d_MD_feed_41 (by decide) (fun _ => ?_) (fun h => absurd (by decide) h)
  refine P_iload d_MD_feed_48 rfl ?_
  refine P_bipush (v := 12) d_MD_feed_50 (by decide) ?_
  refine P_icmp_ge 59 d_MD_feed_52 (by decide) (fun _ => ?_) (fun h => absurd (by decide) h)
  refine P_iload d_MD_feed_59 rfl ?_
  refine P_bipush (v := 16) d_MD_feed_61 (by decide) ?_
  refine P_icmp_ge 71 d_MD_feed_63 (by decide) (fun h => absurd h (by decide)) (fun _ => ?_)
  refine P_iload d_MD_feed_66 rfl ?_
  refine P_goto 73 d_MD_feed_68 (by decide) ?_
  refine P_istore d_MD_feed_73 (by decide) rfl ?_
  refine P_aload_n d_MD_feed_75 rfl ?_
  refine P_getf (i := 1) d_MD_feed_76 ok_Model (by decide) L_MD_9 ((n13 _ (by decide)).trans ((n12 _ (by decide)).trans ((n11 _ (by decide)).trans ((n10 _ (by decide)).trans ((n9 _ (by decide)).trans ((n8 _ (by decide)).trans ((n7 _ (by decide)).trans ((n6 _ (by decide)).trans ((n5 _ (by decide)).trans ((n4 _ (by decide)).trans ((n3 _ (by decide)).trans ((n2 _ (by decide)).trans ((n1 _ (by decide)).trans (fa hM 18 rfl)))))))))))))) rfl ?_
  refine P_aload_n d_MD_feed_79 rfl ?_
  refine P_getf (i := 2) d_MD_feed_80 ok_Model (by decide) L_MD_77 ((n13 _ (by decide)).trans ((n12 _ (by decide)).trans ((n11 _ (by decide)).trans ((n10 _ (by decide)).trans ((n9 _ (by decide)).trans ((n8 _ (by decide)).trans ((n7 _ (by decide)).trans ((n6 _ (by decide)).trans ((n5 _ (by decide)).trans ((n4 _ (by decide)).trans ((n3 _ (by decide)).trans ((n2 _ (by decide)).trans ((n1 _ (by decide)).trans (fa hM 18 rfl)))))))))))))) rfl ?_
  refine P_iload d_MD_feed_83 rfl ?_
  refine P_iadd d_MD_feed_85 ?_
  show PW _ _ _ _ _ _ (86, [(0, .ref 467), (1, .int a1), (2, .int a2), (3, .int a3), (4, .int a4), (5, .int a5), (6, .int 13), (7, .int a4)], [.int 13, .ref 468], w13)
  refine P_iload d_MD_feed_86 rfl ?_
  refine P_bipush (v := 24) d_MD_feed_88 (by decide) ?_
  refine P_bipush (v := 8) d_MD_feed_90 (by decide) ?_
  refine P_iload d_MD_feed_92 rfl ?_
  refine P_iconst (v := 4) d_MD_feed_94 (by decide) ?_
  refine P_irem d_MD_feed_95 (by decide) ?_
  show PW _ _ _ _ _ _ (96, [(0, .ref 467), (1, .int a1), (2, .int a2), (3, .int a3), (4, .int a4), (5, .int a5), (6, .int 13), (7, .int a4)], [.int 1, .int 8, .int 24, .int a4, .int 13, .ref 468], w13)
  refine P_imul d_MD_feed_96 ?_
  show PW _ _ _ _ _ _ (97, [(0, .ref 467), (1, .int a1), (2, .int a2), (3, .int a3), (4, .int a4), (5, .int a5), (6, .int 13), (7, .int a4)], [.int 8, .int 24, .int a4, .int 13, .ref 468], w13)
  refine P_isub d_MD_feed_97 ?_
  show PW _ _ _ _ _ _ (98, [(0, .ref 467), (1, .int a1), (2, .int a2), (3, .int a3), (4, .int a4), (5, .int a5), (6, .int 13), (7, .int a4)], [.int 16, .int a4, .int 13, .ref 468], w13)
  refine P_ishr d_MD_feed_98 ?_
  refine P_sipush (v := 255) d_MD_feed_99 (by decide) ?_
  refine P_iand d_MD_feed_102 ?_
  refine P_iastG (j := 13) d_MD_feed_103 s13 (by decide) ⟨by decide, by decide⟩ (by decide) (fun w14 e14 s14 n14 z14 => ?_)
  show PW _ _ _ _ _ _ (104, [(0, .ref 467), (1, .int a1), (2, .int a2), (3, .int a3), (4, .int a4), (5, .int a5), (6, .int 13), (7, .int a4)], [], w14)
  refine P_iinc (v := 14) d_MD_feed_104 (by decide) rfl (by decide) rfl ?_
  refine P_goto 20 d_MD_feed_107 (by decide) ?_
  refine P_iload d_MD_feed_20 rfl ?_
  refine P_bipush (v := 20) d_MD_feed_22 (by decide) ?_
  refine P_icmp_ge 110 d_MD_feed_24 (by decide) (fun h => absurd h (by decide)) (fun _ => ?_)
  refine P_iload d_MD_feed_27 rfl ?_
  refine P_iconst (v := 4) d_MD_feed_29 (by decide) ?_
  refine P_icmp_ge 37 d_MD_feed_30 (by decide) (fun _ => ?_) (fun h => absurd (by decide) h)
  refine P_iload d_MD_feed_37 rfl ?_
  refine P_bipush (v := 8) d_MD_feed_39 (by decide) ?_
  refine P_icmp_ge 48 d_MD_feed_41 (by decide) (fun _ => ?_) (fun h => absurd (by decide) h)
  refine P_iload d_MD_feed_48 rfl ?_
  refine P_bipush (v := 12) d_MD_feed_50 (by decide) ?_
  refine P_icmp_ge 59 d_MD_feed_52 (by decide) (fun _ => ?_) (fun h => absurd (by decide) h)
  refine P_iload d_MD_feed_59 rfl ?_
  refine P_bipush (v := 16) d_MD_feed_61 (by decide) ?_
  refine P_icmp_ge 71 d_MD_feed_63 (by decide) (fun h => absurd h (by decide)) (fun _ => ?_)
  refine P_iload d_MD_feed_66 rfl ?_
  refine P_goto 73 d_MD_feed_68 (by decide) ?_
  refine P_istore d_MD_feed_73 (by decide) rfl ?_
  refine P_aload_n d_MD_feed_75 rfl ?_
  refine P_getf (i := 1) d_MD_feed_76 ok_Model (by decide) L_MD_9 ((n14 _ (by decide)).trans ((n13 _ (by decide)).trans ((n12 _ (by decide)).trans ((n11 _ (by decide)).trans ((n10 _ (by decide)).trans ((n9 _ (by decide)).trans ((n8 _ (by decide)).trans ((n7 _ (by decide)).trans ((n6 _ (by decide)).trans ((n5 _ (by decide)).trans ((n4 _ (by decide)).trans ((n3 _ (by decide)).trans ((n2 _ (by decide)).trans ((n1 _ (by decide)).trans (fa hM 18 rfl))))))))))))))) rfl ?_
  refine P_aload_n d_MD_feed_79 rfl ?_
  refine P_getf (i := 2) d_MD_feed_80 ok_Model (by decide) L_MD_77 ((n14 _ (by decide)).trans ((n13 _ (by decide)).trans ((n12 _ (by decide)).trans ((n11 _ (by decide)).trans ((n10 _ (by decide)).trans ((n9 _ (by decide)).trans ((n8 _ (by decide)).trans ((n7 _ (by decide)).trans ((n6 _ (by decide)).trans ((n5 _ (by decide)).trans ((n4 _ (by decide)).trans ((n3 _ (by decide)).trans ((n2 _ (by decide)).trans ((n1 _ (by decide)).trans (fa hM 18 rfl))))))))))))))) rfl ?_
  refine P_iload d_MD_feed_83 rfl ?_
  refine P_iadd d_MD_feed_85 ?_
  show PW _ _ _ _ _ _ (86, [(0, .ref 467), (1, .int a1), (2, .int a2), (3, .int a3), (4, .int a4), (5, .int a5), (6, .int 14), (7, .int a4)], [.int 14, .ref 468], w14)
  refine P_iload d_MD_feed_86 rfl ?_
  refine P_bipush (v := 24) d_MD_feed_88 (by decide) ?_
  refine P_bipush (v := 8) d_MD_feed_90 (by decide) ?_
  refine P_iload d_MD_feed_92 rfl ?_
  refine P_iconst (v := 4) d_MD_feed_94 (by decide) ?_
  refine P_irem d_MD_feed_95 (by decide) ?_
  show PW _ _ _ _ _ _ (96, [(0, .ref 467), (1, .int a1), (2, .int a2), (3, .int a3), (4, .int a4), (5, .int a5), (6, .int 14), (7, .int a4)], [.int 2, .int 8, .int 24, .int a4, .int 14, .ref 468], w14)
  refine P_imul d_MD_feed_96 ?_
  show PW _ _ _ _ _ _ (97, [(0, .ref 467), (1, .int a1), (2, .int a2), (3, .int a3), (4, .int a4), (5, .int a5), (6, .int 14), (7, .int a4)], [.int 16, .int 24, .int a4, .int 14, .ref 468], w14)
  refine P_isub d_MD_feed_97 ?_
  show PW _ _ _ _ _ _ (98, [(0, .ref 467), (1, .int a1), (2, .int a2), (3, .int a3), (4, .int a4), (5, .int a5), (6, .int 14), (7, .int a4)], [.int 8, .int a4, .int 14, .ref 468], w14)
  refine P_ishr d_MD_feed_98 ?_
  refine P_sipush (v := 255) d_MD_feed_99 (by decide) ?_
  refine P_iand d_MD_feed_102 ?_
  refine P_iastG (j := 14) d_MD_feed_103 s14 (by decide) ⟨by decide, by decide⟩ (by decide) (fun w15 e15 s15 n15 z15 => ?_)
  show PW _ _ _ _ _ _ (104, [(0, .ref 467), (1, .int a1), (2, .int a2), (3, .int a3), (4, .int a4), (5, .int a5), (6, .int 14), (7, .int a4)], [], w15)
  refine P_iinc (v := 15) d_MD_feed_104 (by decide) rfl (by decide) rfl ?_
  refine P_goto 20 d_MD_feed_107 (by decide) ?_
  refine P_iload d_MD_feed_20 rfl ?_
  refine P_bipush (v := 20) d_MD_feed_22 (by decide) ?_
  refine P_icmp_ge 110 d_MD_feed_24 (by decide) (fun h => absurd h (by decide)) (fun _ => ?_)
  refine P_iload d_MD_feed_27 rfl ?_
  refine P_iconst (v := 4) d_MD_feed_29 (by decide) ?_
  refine P_icmp_ge 37 d_MD_feed_30 (by decide) (fun _ => ?_) (fun h => absurd (by decide) h)
  refine P_iload d_MD_feed_37 rfl ?_
  refine P_bipush (v := 8) d_MD_feed_39 (by decide) ?_
  refine P_icmp_ge 48 d_MD_feed_41 (by decide) (fun _ => ?_) (fun h => absurd (by decide) h)
  refine P_iload d_MD_feed_48 rfl ?_
  refine P_bipush (v := 12) d_MD_feed_50 (by decide) ?_
  refine P_icmp_ge 59 d_MD_feed_52 (by decide) (fun _ => ?_) (fun h => absurd (by decide) h)
  refine P_iload d_MD_feed_59 rfl ?_
  refine P_bipush (v := 16) d_MD_feed_61 (by decide) ?_
  refine P_icmp_ge 71 d_MD_feed_63 (by decide) (fun h => absurd h (by decide)) (fun _ => ?_)
  refine P_iload d_MD_feed_66 rfl ?_
  refine P_goto 73 d_MD_feed_68 (by decide) ?_
  refine P_istore d_MD_feed_73 (by decide) rfl ?_
  refine P_aload_n d_MD_feed_75 rfl ?_
  refine P_getf (i := 1) d_MD_feed_76 ok_Model (by decide) L_MD_9 ((n15 _ (by decide)).trans ((n14 _ (by decide)).trans ((n13 _ (by decide)).trans ((n12 _ (by decide)).trans ((n11 _ (by decide)).trans ((n10 _ (by decide)).trans ((n9 _ (by decide)).trans ((n8 _ (by decide)).trans ((n7 _ (by decide)).trans ((n6 _ (by decide)).trans ((n5 _ (by decide)).trans ((n4 _ (by decide)).trans ((n3 _ (by decide)).trans ((n2 _ (by decide)).trans ((n1 _ (by decide)).trans (fa hM 18 rfl)))))))))))))))) rfl ?_
  refine P_aload_n d_MD_feed_79 rfl ?_
  refine P_getf (i := 2) d_MD_feed_80 ok_Model (by decide) L_MD_77 ((n15 _ (by decide)).trans ((n14 _ (by decide)).trans ((n13 _ (by decide)).trans ((n12 _ (by decide)).trans ((n11 _ (by decide)).trans ((n10 _ (by decide)).trans ((n9 _ (by decide)).trans ((n8 _ (by decide)).trans ((n7 _ (by decide)).trans ((n6 _ (by decide)).trans ((n5 _ (by decide)).trans ((n4 _ (by decide)).trans ((n3 _ (by decide)).trans ((n2 _ (by decide)).trans ((n1 _ (by decide)).trans (fa hM 18 rfl)))))))))))))))) rfl ?_
  refine P_iload d_MD_feed_83 rfl ?_
  refine P_iadd d_MD_feed_85 ?_
  show PW _ _ _ _ _ _ (86, [(0, .ref 467), (1, .int a1), (2, .int a2), (3, .int a3), (4, .int a4), (5, .int a5), (6, .int 15), (7, .int a4)], [.int 15, .ref 468], w15)
  refine P_iload d_MD_feed_86 rfl ?_
  refine P_bipush (v := 24) d_MD_feed_88 (by decide) ?_
  refine P_bipush (v := 8) d_MD_feed_90 (by decide) ?_
  refine P_iload d_MD_feed_92 rfl ?_
  refine P_iconst (v := 4) d_MD_feed_94 (by decide) ?_
  refine P_irem d_MD_feed_95 (by decide) ?_
  show PW _ _ _ _ _ _ (96, [(0, .ref 467), (1, .int a1), (2, .int a2), (3, .int a3), (4, .int a4), (5, .int a5), (6, .int 15), (7, .int a4)], [.int 3, .int 8, .int 24, .int a4, .int 15, .ref 468], w15)
  refine P_imul d_MD_feed_96 ?_
  show PW _ _ _ _ _ _ (97, [(0, .ref 467), (1, .int a1), (2, .int a2), (3, .int a3), (4, .int a4), (5, .int a5), (6, .int 15), (7, .int a4)], [.int 24, .int 24, .int a4, .int 15, .ref 468], w15)
  refine P_isub d_MD_feed_97 ?_
  show PW _ _ _ _ _ _ (98, [(0, .ref 467), (1, .int a1), (2, .int a2), (3, .int a3), (4, .int a4), (5, .int a5), (6, .int 15), (7, .int a4)], [.int 0, .int a4, .int 15, .ref 468], w15)
  refine P_ishr d_MD_feed_98 ?_
  refine P_sipush (v := 255) d_MD_feed_99 (by decide) ?_
  refine P_iand d_MD_feed_102 ?_
  refine P_iastG (j := 15) d_MD_feed_103 s15 (by decide) ⟨by decide, by decide⟩ (by decide) (fun w16 e16 s16 n16 z16 => ?_)
  show PW _ _ _ _ _ _ (104, [(0, .ref 467), (1, .int a1), (2, .int a2), (3, .int a3), (4, .int a4), (5, .int a5), (6, .int 15), (7, .int a4)], [], w16)
  refine P_iinc (v := 16) d_MD_feed_104 (by decide) rfl (by decide) rfl ?_
  refine P_goto 20 d_MD_feed_107 (by decide) ?_
  refine P_iload d_MD_feed_20 rfl ?_
  refine P_bipush (v := 20) d_MD_feed_22 (by decide) ?_
  refine P_icmp_ge 110 d_MD_feed_24 (by decide) (fun h => absurd h (by decide)) (fun _ => ?_)
  refine P_iload d_MD_feed_27 rfl ?_
  refine P_iconst (v := 4) d_MD_feed_29 (by decide) ?_
  refine P_icmp_ge 37 d_MD_feed_30 (by decide) (fun _ => ?_) (fun h => absurd (by decide) h)
  refine P_iload d_MD_feed_37 rfl ?_
  refine P_bipush (v := 8) d_MD_feed_39 (by decide) ?_
  refine P_icmp_ge 48 d_MD_feed_41 (by decide) (fun _ => ?_) (fun h => absurd (by decide) h)
  refine P_iload d_MD_feed_48 rfl ?_
  refine P_bipush (v := 12) d_MD_feed_50 (by decide) ?_
  refine P_icmp_ge 59 d_MD_feed_52 (by decide) (fun _ => ?_) (fun h => absurd (by decide) h)
  refine P_iload d_MD_feed_59 rfl ?_
  refine P_bipush (v := 16) d_MD_feed_61 (by decide) ?_
  refine P_icmp_ge 71 d_MD_feed_63 (by decide) (fun _ => ?_) (fun h => absurd (by decide) h)
  refine P_iload d_MD_feed_71 rfl ?_
  refine P_istore d_MD_feed_73 (by decide) rfl ?_
  refine P_aload_n d_MD_feed_75 rfl ?_
  refine P_getf (i := 1) d_MD_feed_76 ok_Model (by decide) L_MD_9 ((n16 _ (by decide)).trans ((n15 _ (by decide)).trans ((n14 _ (by decide)).trans ((n13 _ (by decide)).trans ((n12 _ (by decide)).trans ((n11 _ (by decide)).trans ((n10 _ (by decide)).trans ((n9 _ (by decide)).trans ((n8 _ (by decide)).trans ((n7 _ (by decide)).trans ((n6 _ (by decide)).trans ((n5 _ (by decide)).trans ((n4 _ (by decide)).trans ((n3 _ (by decide)).trans ((n2 _ (by decide)).trans ((n1 _ (by decide)).trans (fa hM 18 rfl))))))))))))))))) rfl ?_
  refine P_aload_n d_MD_feed_79 rfl ?_
  refine P_getf (i := 2) d_MD_feed_80 ok_Model (by decide) L_MD_77 ((n16 _ (by decide)).trans ((n15 _ (by decide)).trans ((n14 _ (by decide)).trans ((n13 _ (by decide)).trans ((n12 _ (by decide)).trans ((n11 _ (by decide)).trans ((n10 _ (by decide)).trans ((n9 _ (by decide)).trans ((n8 _ (by decide)).trans ((n7 _ (by decide)).trans ((n6 _ (by decide)).trans ((n5 _ (by decide)).trans ((n4 _ (by decide)).trans ((n3 _ (by decide)).trans ((n2 _ (by decide)).trans ((n1 _ (by decide)).trans (fa hM 18 rfl))))))))))))))))) rfl ?_
  refine P_iload d_MD_feed_83 rfl ?_
  refine P_iadd d_MD_feed_85 ?_
  show PW _ _ _ _ _ _ (86, [(0, .ref 467), (1, .int a1), (2, .int a2), (3, .int a3), (4, .int a4), (5, .int a5), (6, .int 16), (7, .int a5)], [.int 16, .ref 468], w16)
  refine P_iload d_MD_feed_86 rfl ?_
  refine P_bipush (v := 24) d_MD_feed_88 (by decide) ?_
  refine P_bipush (v := 8) d_MD_feed_90 (by decide) ?_
  refine P_iload d_MD_feed_92 rfl ?_
  refine P_iconst (v := 4) d_MD_feed_94 (by decide) ?_
  refine P_irem d_MD_feed_95 (by decide) ?_
  show PW _ _ _ _ _ _ (96, [(0, .ref 467), (1, .int a1), (2, .int a2), (3, .int a3), (4, .int a4), (5, .int a5), (6, .int 16), (7, .int a5)], [.int 0, .int 8, .int 24, .int a5, .int 16, .ref 468], w16)
  refine P_imul d_MD_feed_96 ?_
  show PW _ _ _ _ _ _ (97, [(0, .ref 467), (1, .int a1), (2, .int a2), (3, .int a3), (4, .int a4), (5, .int a5), (6, .int 16), (7, .int a5)], [.int 0, .int 24, .int a5, .int 16, .ref 468], w16)
  refine P_isub d_MD_feed_97 ?_
  show PW _ _ _ _ _ _ (98, [(0, .ref 467), (1, .int a1), (2, .int a2), (3, .int a3), (4, .int a4), (5, .int a5), (6, .int 16), (7, .int a5)], [.int 24, .int a5, .int 16, .ref 468], w16)
  refine P_ishr d_MD_feed_98 ?_
  refine P_sipush (v := 255) d_MD_feed_99 (by decide) ?_
  refine P_iand d_MD_feed_102 ?_
  refine P_iastG (j := 16) d_MD_feed_103 s16 (by decide) ⟨by decide, by decide⟩ (by decide) (fun w17 e17 s17 n17 z17 => ?_)
  show PW _ _ _ _ _ _ (104, [(0, .ref 467), (1, .int a1), (2, .int a2), (3, .int a3), (4, .int a4), (5, .int a5), (6, .int 16), (7, .int a5)], [], w17)
  refine P_iinc (v := 17) d_MD_feed_104 (by decide) rfl (by decide) rfl ?_
  refine P_goto 20 d_MD_feed_107 (by decide) ?_
  refine P_iload d_MD_feed_20 rfl ?_
  refine P_bipush (v := 20) d_MD_feed_22 (by decide) ?_
  refine P_icmp_ge 110 d_MD_feed_24 (by decide) (fun h => absurd h (by decide)) (fun _ => ?_)
  refine P_iload d_MD_feed_27 rfl ?_
  refine P_iconst (v := 4) d_MD_feed_29 (by decide) ?_
  refine P_icmp_ge 37 d_MD_feed_30 (by decide) (fun _ => ?_) (fun h => absurd (by decide) h)
  refine P_iload d_MD_feed_37 rfl ?_
  refine P_bipush (v := 8) d_MD_feed_39 (by decide) ?_
  refine P_icmp_ge 48 d_MD_feed_41 (by decide) (fun _ => ?_) (fun h => absurd (by decide) h)
  refine P_iload d_MD_feed_48 rfl ?_
  refine P_bipush (v := 12) d_MD_feed_50 (by decide) ?_
  refine P_icmp_ge 59 d_MD_feed_52 (by decide) (fun _ => ?_) (fun h => absurd (by decide) h)
  refine P_iload d_MD_feed_59 rfl ?_
  refine P_bipush (v := 16) d_MD_feed_61 (by decide) ?_
  refine P_icmp_ge 71 d_MD_feed_63 (by decide) (fun _ => ?_) (fun h => absurd (by decide) h)
  refine P_iload d_MD_feed_71 rfl ?_
  refine P_istore d_MD_feed_73 (by decide) rfl ?_
  refine P_aload_n d_MD_feed_75 rfl ?_
  refine P_getf (i := 1) d_MD_feed_76 ok_Model (by decide) L_MD_9 ((n17 _ (by decide)).trans ((n16 _ (by decide)).trans ((n15 _ (by decide)).trans ((n14 _ (by decide)).trans ((n13 _ (by decide)).trans ((n12 _ (by decide)).trans ((n11 _ (by decide)).trans ((n10 _ (by decide)).trans ((n9 _ (by decide)).trans ((n8 _ (by decide)).trans ((n7 _ (by decide)).trans ((n6 _ (by decide)).trans ((n5 _ (by decide)).trans ((n4 _ (by decide)).trans ((n3 _ (by decide)).trans ((n2 _ (by decide)).trans ((n1 _ (by decide)).trans (fa hM 18 rfl)))))))))))))))))) rfl ?_
  refine P_aload_n d_MD_feed_79 rfl ?_
  refine P_getf (i := 2) d_MD_feed_80 ok_Model (by decide) L_MD_77 ((n17 _ (by decide)).trans ((n16 _ (by decide)).trans ((n15 _ (by decide)).trans ((n14 _ (by decide)).trans ((n13 _ (by decide)).trans ((n12 _ (by decide)).trans ((n11 _ (by decide)).trans ((n10 _ (by decide)).trans ((n9 _ (by decide)).trans ((n8 _ (by decide)).trans ((n7 _ (by decide)).trans ((n6 _ (by decide)).trans ((n5 _ (by decide)).trans ((n4 _ (by decide)).trans ((n3 _ (by decide)).trans ((n2 _ (by decide)).trans ((n1 _ (by decide)).trans (fa hM 18 rfl)))))))))))))))))) rfl ?_
  refine P_iload d_MD_feed_83 rfl ?_
  refine P_iadd d_MD_feed_85 ?_
  show PW _ _ _ _ _ _ (86, [(0, .ref 467), (1, .int a1), (2, .int a2), (3, .int a3), (4, .int a4), (5, .int a5), (6, .int 17), (7, .int a5)], [.int 17, .ref 468], w17)
  refine P_iload d_MD_feed_86 rfl ?_
  refine P_bipush (v := 24) d_MD_feed_88 (by decide) ?_
  refine P_bipush (v := 8) d_MD_feed_90 (by decide) ?_
  refine P_iload d_MD_feed_92 rfl ?_
  refine P_iconst (v := 4) d_MD_feed_94 (by decide) ?_
  refine P_irem d_MD_feed_95 (by decide) ?_
  show PW _ _ _ _ _ _ (96, [(0, .ref 467), (1, .int a1), (2, .int a2), (3, .int a3), (4, .int a4), (5, .int a5), (6, .int 17), (7, .int a5)], [.int 1, .int 8, .int 24, .int a5, .int 17, .ref 468], w17)
  refine P_imul d_MD_feed_96 ?_
  show PW _ _ _ _ _ _ (97, [(0, .ref 467), (1, .int a1), (2, .int a2), (3, .int a3), (4, .int a4), (5, .int a5), (6, .int 17), (7, .int a5)], [.int 8, .int 24, .int a5, .int 17, .ref 468], w17)
  refine P_isub d_MD_feed_97 ?_
  show PW _ _ _ _ _ _ (98, [(0, .ref 467), (1, .int a1), (2, .int a2), (3, .int a3), (4, .int a4), (5, .int a5), (6, .int 17), (7, .int a5)], [.int 16, .int a5, .int 17, .ref 468], w17)
  refine P_ishr d_MD_feed_98 ?_
  refine P_sipush (v := 255) d_MD_feed_99 (by decide) ?_
  refine P_iand d_MD_feed_102 ?_
  refine P_iastG (j := 17) d_MD_feed_103 s17 (by decide) ⟨by decide, by decide⟩ (by decide) (fun w18 e18 s18 n18 z18 => ?_)
  show PW _ _ _ _ _ _ (104, [(0, .ref 467), (1, .int a1), (2, .int a2), (3, .int a3), (4, .int a4), (5, .int a5), (6, .int 17), (7, .int a5)], [], w18)
  refine P_iinc (v := 18) d_MD_feed_104 (by decide) rfl (by decide) rfl ?_
  refine P_goto 20 d_MD_feed_107 (by decide) ?_
  refine P_iload d_MD_feed_20 rfl ?_
  refine P_bipush (v := 20) d_MD_feed_22 (by decide) ?_
  refine P_icmp_ge 110 d_MD_feed_24 (by decide) (fun h => absurd h (by decide)) (fun _ => ?_)
  refine P_iload d_MD_feed_27 rfl ?_
  refine P_iconst (v := 4) d_MD_feed_29 (by decide) ?_
  refine P_icmp_ge 37 d_MD_feed_30 (by decide) (fun _ => ?_) (fun h => absurd (by decide) h)
  refine P_iload d_MD_feed_37 rfl ?_
  refine P_bipush (v := 8) d_MD_feed_39 (by decide) ?_
  refine P_icmp_ge 48 d_MD_feed_41 (by decide) (fun _ => ?_) (fun h => absurd (by decide) h)
  refine P_iload d_MD_feed_48 rfl ?_
  refine P_bipush (v := 12) d_MD_feed_50 (by decide) ?_
  refine P_icmp_ge 59 d_MD_feed_52 (by decide) (fun _ => ?_) (fun h => absurd (by decide) h)
  refine P_iload d_MD_feed_59 rfl ?_
  refine P_bipush (v := 16) d_MD_feed_61 (by decide) ?_
  refine P_icmp_ge 71 d_MD_feed_63 (by decide) (fun _ => ?_) (fun h => absurd (by decide) h)
  refine P_iload d_MD_feed_71 rfl ?_
  refine P_istore d_MD_feed_73 (by decide) rfl ?_
  refine P_aload_n d_MD_feed_75 rfl ?_
  refine P_getf (i := 1) d_MD_feed_76 ok_Model (by decide) L_MD_9 ((n18 _ (by decide)).trans ((n17 _ (by decide)).trans ((n16 _ (by decide)).trans ((n15 _ (by decide)).trans ((n14 _ (by decide)).trans ((n13 _ (by decide)).trans ((n12 _ (by decide)).trans ((n11 _ (by decide)).trans ((n10 _ (by decide)).trans ((n9 _ (by decide)).trans ((n8 _ (by decide)).trans ((n7 _ (by decide)).trans ((n6 _ (by decide)).trans ((n5 _ (by decide)).trans ((n4 _ (by decide)).trans ((n3 _ (by decide)).trans ((n2 _ (by decide)).trans ((n1 _ (by decide)).trans (fa hM 18 rfl))))))))))))))))))) rfl ?_
  refine P_aload_n d_MD_feed_79 rfl ?_
  refine P_getf (i := 2) d_MD_feed_80 ok_Model (by decide) L_MD_77 ((n18 _ (by decide)).trans ((n17 _ (by decide)).trans ((n16 _ (by decide)).trans ((n15 _ (by decide)).trans ((n14 _ (by decide)).trans ((n13 _ (by decide)).trans ((n12 _ (by decide)).trans ((n11 _ (by decide)).trans ((n10 _ (by decide)).trans ((n9 _ (by decide)).trans ((n8 _ (by decide)).trans ((n7 _ (by decide)).trans ((n6 _ (by decide)).trans ((n5 _ (by decide)).trans ((n4 _ (by decide)).trans ((n3 _ (by decide)).trans ((n2 _ (by decide)).trans ((n1 _ (by decide)).trans (fa hM 18 rfl))))))))))))))))))) rfl ?_
  refine P_iload d_MD_feed_83 rfl ?_
  refine P_iadd d_MD_feed_85 ?_
  show PW _ _ _ _ _ _ (86, [(0, .ref 467), (1, .int a1), (2, .int a2), (3, .int a3), (4, .int a4), (5, .int a5), (6, .int 18), (7, .int a5)], [.int 18, .ref 468], w18)
  refine P_iload d_MD_feed_86 rfl ?_
  refine P_bipush (v := 24) d_MD_feed_88 (by decide) ?_
  refine P_bipush (v := 8) d_MD_feed_90 (by decide) ?_
  refine P_iload d_MD_feed_92 rfl ?_
  refine P_iconst (v := 4) d_MD_feed_94 (by decide) ?_
  refine P_irem d_MD_feed_95 (by decide) ?_
  show PW _ _ _ _ _ _ (96, [(0, .ref 467), (1, .int a1), (2, .int a2), (3, .int a3), (4, .int a4), (5, .int a5), (6, .int 18), (7, .int a5)], [.int 2, .int 8, .int 24, .int a5, .int 18, .ref 468], w18)
  refine P_imul d_MD_feed_96 ?_
  show PW _ _ _ _ _ _ (97, [(0, .ref 467), (1, .int a1), (2, .int a2), (3, .int a3), (4, .int a4), (5, .int a5), (6, .int 18), (7, .int a5)], [.int 16, .int 24, .int a5, .int 18, .ref 468], w18)
  refine P_isub d_MD_feed_97 ?_
  show PW _ _ _ _ _ _ (98, [(0, .ref 467), (1, .int a1), (2, .int a2), (3, .int a3), (4, .int a4), (5, .int a5), (6, .int 18), (7, .int a5)], [.int 8, .int a5, .int 18, .ref 468], w18)
  refine P_ishr d_MD_feed_98 ?_
  refine P_sipush (v := 255) d_MD_feed_99 (by decide) ?_
  refine P_iand d_MD_feed_102 ?_
  refine P_iastG (j := 18) d_MD_feed_103 s18 (by decide) ⟨by decide, by decide⟩ (by decide) (fun w19 e19 s19 n19 z19 => ?_)
  show PW _ _ _ _ _ _ (104, [(0, .ref 467), (1, .int a1), (2, .int a2), (3, .int a3), (4, .int a4), (5, .int a5), (6, .int 18), (7, .int a5)], [], w19)
  refine P_iinc (v := 19) d_MD_feed_104 (by decide) rfl (by decide) rfl ?_
  refine P_goto 20 d_MD_feed_107 (by decide) ?_
  refine P_iload d_MD_feed_20 rfl ?_
  refine P_bipush (v := 20) d_MD_feed_22 (by decide) ?_
  refine P_icmp_ge 110 d_MD_feed_24 (by decide) (fun h => absurd h (by decide)) (fun _ => ?_)
  refine P_iload d_MD_feed_27 rfl ?_
  refine P_iconst (v := 4) d_MD_feed_29 (by decide) ?_
  refine P_icmp_ge 37 d_MD_feed_30 (by decide) (fun _ => ?_) (fun h => absurd (by decide) h)
  refine P_iload d_MD_feed_37 rfl ?_
  refine P_bipush (v := 8) d_MD_feed_39 (by decide) ?_
  refine P_icmp_ge 48 d_MD_feed_41 (by decide) (fun _ => ?_) (fun h => absurd (by decide) h)
  refine P_iload d_MD_feed_48 rfl ?_
  refine P_bipush (v := 12) d_MD_feed_50 (by decide) ?_
  refine P_icmp_ge 59 d_MD_feed_52 (by decide) (fun _ => ?_) (fun h => absurd (by decide) h)
  refine P_iload d_MD_feed_59 rfl ?_
  refine P_bipush (v := 16) d_MD_feed_61 (by decide) ?_
  refine P_icmp_ge 71 d_MD_feed_63 (by decide) (fun _ => ?_) (fun h => absurd (by decide) h)
  refine P_iload d_MD_feed_71 rfl ?_
  refine P_istore d_MD_feed_73 (by decide) rfl ?_
  refine P_aload_n d_MD_feed_75 rfl ?_
  refine P_getf (i := 1) d_MD_feed_76 ok_Model (by decide) L_MD_9 ((n19 _ (by decide)).trans ((n18 _ (by decide)).trans ((n17 _ (by decide)).trans ((n16 _ (by decide)).trans ((n15 _ (by decide)).trans ((n14 _ (by decide)).trans ((n13 _ (by decide)).trans ((n12 _ (by decide)).trans ((n11 _ (by decide)).trans ((n10 _ (by decide)).trans ((n9 _ (by decide)).trans ((n8 _ (by decide)).trans ((n7 _ (by decide)).trans ((n6 _ (by decide)).trans ((n5 _ (by decide)).trans ((n4 _ (by decide)).trans ((n3 _ (by decide)).trans ((n2 _ (by decide)).trans ((n1 _ (by decide)).trans (fa hM 18 rfl)))))))))))))))))))) rfl ?_
  refine P_aload_n d_MD_feed_79 rfl ?_
  refine P_getf (i := 2) d_MD_feed_80 ok_Model (by decide) L_MD_77 ((n19 _ (by decide)).trans ((n18 _ (by decide)).trans ((n17 _ (by decide)).trans ((n16 _ (by decide)).trans ((n15 _ (by decide)).trans ((n14 _ (by decide)).trans ((n13 _ (by decide)).trans ((n12 _ (by decide)).trans ((n11 _ (by decide)).trans ((n10 _ (by decide)).trans ((n9 _ (by decide)).trans ((n8 _ (by decide)).trans ((n7 _ (by decide)).trans ((n6 _ (by decide)).trans ((n5 _ (by decide)).trans ((n4 _ (by decide)).trans ((n3 _ (by decide)).trans ((n2 _ (by decide)).trans ((n1 _ (by decide)).trans (fa hM 18 rfl)))))))))))))))))))) rfl ?_
  refine P_iload d_MD_feed_83 rfl ?_
  refine P_iadd d_MD_feed_85 ?_
  show PW _ _ _ _ _ _ (86, [(0, .ref 467), (1, .int a1), (2, .int a2), (3, .int a3), (4, .int a4), (5, .int a5), (6, .int 19), (7, .int a5)], [.int 19, .ref 468], w19)
  refine P_iload d_MD_feed_86 rfl ?_
  refine P_bipush (v := 24) d_MD_feed_88 (by decide) ?_
  refine P_bipush (v := 8) d_MD_feed_90 (by decide) ?_
  refine P_iload d_MD_feed_92 rfl ?_
  refine P_iconst (v := 4) d_MD_feed_94 (by decide) ?_
  refine P_irem d_MD_feed_95 (by decide) ?_
  show PW _ _ _ _ _ _ (96, [(0, .ref 467), (1, .int a1), (2, .int a2), (3, .int a3), (4, .int a4), (5, .int a5), (6, .int 19), (7, .int a5)], [.int 3, .int 8, .int 24, .int a5, .int 19, .ref 468], w19)
  refine P_imul d_MD_feed_96 ?_
  show PW _ _ _ _ _ _ (97, [(0, .ref 467), (1, .int a1), (2, .int a2), (3, .int a3), (4, .int a4), (5, .int a5), (6, .int 19), (7, .int a5)], [.int 24, .int 24, .int a5, .int 19, .ref 468], w19)
  refine P_isub d_MD_feed_97 ?_
  show PW _ _ _ _ _ _ (98, [(0, .ref 467), (1, .int a1), (2, .int a2), (3, .int a3), (4, .int a4), (5, .int a5), (6, .int 19), (7, .int a5)], [.int 0, .int a5, .int 19, .ref 468], w19)
  refine P_ishr d_MD_feed_98 ?_
  refine P_sipush (v := 255) d_MD_feed_99 (by decide) ?_
  refine P_iand d_MD_feed_102 ?_
  refine P_iastG (j := 19) d_MD_feed_103 s19 (by decide) ⟨by decide, by decide⟩ (by decide) (fun w20 e20 s20 n20 z20 => ?_)
  show PW _ _ _ _ _ _ (104, [(0, .ref 467), (1, .int a1), (2, .int a2), (3, .int a3), (4, .int a4), (5, .int a5), (6, .int 19), (7, .int a5)], [], w20)
  refine P_iinc (v := 20) d_MD_feed_104 (by decide) rfl (by decide) rfl ?_
  refine P_goto 20 d_MD_feed_107 (by decide) ?_
  refine P_iload d_MD_feed_20 rfl ?_
  refine P_bipush (v := 20) d_MD_feed_22 (by decide) ?_
  refine P_icmp_ge 110 d_MD_feed_24 (by decide) (fun _ => ?_) (fun h => absurd (by decide) h)
  refine P_aload_n d_MD_feed_110 rfl ?_
  refine P_dup d_MD_feed_111 rfl ?_
  refine P_getf (i := 2) d_MD_feed_112 ok_Model (by decide) L_MD_77 ((n20 _ (by decide)).trans ((n19 _ (by decide)).trans ((n18 _ (by decide)).trans ((n17 _ (by decide)).trans ((n16 _ (by decide)).trans ((n15 _ (by decide)).trans ((n14 _ (by decide)).trans ((n13 _ (by decide)).trans ((n12 _ (by decide)).trans ((n11 _ (by decide)).trans ((n10 _ (by decide)).trans ((n9 _ (by decide)).trans ((n8 _ (by decide)).trans ((n7 _ (by decide)).trans ((n6 _ (by decide)).trans ((n5 _ (by decide)).trans ((n4 _ (by decide)).trans ((n3 _ (by decide)).trans ((n2 _ (by decide)).trans ((n1 _ (by decide)).trans (fa hM 18 rfl))))))))))))))))))))) rfl ?_
  refine P_bipush (v := 20) d_MD_feed_115 (by decide) ?_
  refine P_iadd d_MD_feed_117 ?_
  show PW _ _ _ _ _ _ (118, [(0, .ref 467), (1, .int a1), (2, .int a2), (3, .int a3), (4, .int a4), (5, .int a5), (6, .int 20), (7, .int a5)], [.int 20, .ref 467], w20)
  refine P_putG (i := 2) d_MD_feed_118 ok_Model (by decide) rfl L_MD_77 ((n20 _ (by decide)).trans ((n19 _ (by decide)).trans ((n18 _ (by decide)).trans ((n17 _ (by decide)).trans ((n16 _ (by decide)).trans ((n15 _ (by decide)).trans ((n14 _ (by decide)).trans ((n13 _ (by decide)).trans ((n12 _ (by decide)).trans ((n11 _ (by decide)).trans ((n10 _ (by decide)).trans ((n9 _ (by decide)).trans ((n8 _ (by decide)).trans ((n7 _ (by decide)).trans ((n6 _ (by decide)).trans ((n5 _ (by decide)).trans ((n4 _ (by decide)).trans ((n3 _ (by decide)).trans ((n2 _ (by decide)).trans ((n1 _ (by decide)).trans (fa hM 18 rfl))))))))))))))))))))) (fun _ => rfl) (fun _ => rfl) (fun w21 e21 s21 n21 z21 => ?_)
  show PW _ _ _ _ _ _ (121, [(0, .ref 467), (1, .int a1), (2, .int a2), (3, .int a3), (4, .int a4), (5, .int a5), (6, .int 20), (7, .int a5)], [], w21)
  refine P_aload_n d_MD_feed_121 rfl ?_
  refine P_getf (i := 2) d_MD_feed_122 ok_Model (by decide) L_MD_77 s21 rfl ?_
  exact P_iret d_MD_feed_125 rfl (le_b rfl) (le_b rfl) ⟨rfl, trivial⟩
