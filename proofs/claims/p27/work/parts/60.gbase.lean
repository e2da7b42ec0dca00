/-! small numbers as Nat -/
theorem nI_dec {a : Nat} (h : 1 ≤ a) : nI a + (-1) = nI (a - 1) := by
  obtain ⟨b, rfl⟩ : ∃ b, a = b + 1 := ⟨a - 1, by omega⟩
  exact pk_m1 b
theorem nI_lt1 {a b : Nat} (ha : a < 2 ^ 31) (hb : b < 2 ^ 31) (h : nI a < nI b) : a < b := (nI_ltI ha hb).mp h
theorem nI_lt0 {a b : Nat} (ha : a < 2 ^ 31) (hb : b < 2 ^ 31) (h : ¬ nI a < nI b) : b ≤ a := by
  rcases Nat.lt_or_ge a b with z | z
  · exact absurd ((nI_ltI ha hb).mpr z) h
  · exact z
theorem nI_le1 {a b : Nat} (ha : a < 2 ^ 31) (hb : b < 2 ^ 31) (h : nI a ≤ nI b) : a ≤ b := (nI_leI ha hb).mp h
theorem nI_le0 {a b : Nat} (ha : a < 2 ^ 31) (hb : b < 2 ^ 31) (h : ¬ nI a ≤ nI b) : b < a := by
  rcases Nat.lt_or_ge b a with z | z
  · exact z
  · exact absurd ((nI_leI ha hb).mpr z) h
theorem nI_eq1 {a b : Nat} (ha : a < 2 ^ 31) (hb : b < 2 ^ 31) (h : nI a = nI b) : a = b := (nI_eq ha hb).mp h
theorem nI_eq0 {a b : Nat} (ha : a < 2 ^ 31) (hb : b < 2 ^ 31) (h : ¬ nI a = nI b) : ¬ a = b := fun z => h ((nI_eq ha hb).mpr z)
/-- an array of small numbers -/
noncomputable def nF (g : Nat → Nat) : Nat → Int32 := fun i => nI (g i)
theorem nF_at {g : Nat → Nat} {k : Nat} (h : k < 2 ^ 31) : nF g (nI k).toNatClampNeg = nI (g k) := by rw [nI_clamp h]; rfl
noncomputable def updN (g : Nat → Nat) (k x : Nat) : Nat → Nat := fun i => if i = k then x else g i
theorem nF_upd {g : Nat → Nat} {k x : Nat} : upd (nF g) k (nI x) = nF (updN g k x) := by
  funext i
  show (if i = k then nI x else nF g i) = nI (if i = k then x else g i)
  by_cases h : i = k
  · rw [if_pos h, if_pos h]
  · rw [if_neg h, if_neg h]; rfl
/-- an int as a number from 0 on -/
noncomputable def nC (v : Int32) : Nat := v.toNatClampNeg
theorem nC_nI {k : Nat} (h : k < 2 ^ 31) : nC (nI k) = k := nI_clamp h
theorem nC_eq {v : Int32} (h : 0 ≤ v) : v = nI (nC v) := by
  obtain ⟨j, hj, rfl⟩ := nI_of (x := v) (Int32.not_lt.mpr h)
  rw [nC_nI hj]
theorem nC_31 (v : Int32) : nC v < 2 ^ 31 := by
  by_cases h : v < 0
  · have a : v.toInt < (0 : Int) := Int32.lt_iff_toInt_lt.mp h
    have b : nC v = v.toInt.toNat := rfl
    omega
  · obtain ⟨j, hj, rfl⟩ := nI_of (x := v) h
    rw [nC_nI hj]; exact hj
theorem nC_le {v : Int32} {n : Nat} (hn : n < 2 ^ 31) (h : 0 ≤ v ∧ v ≤ nI n) : nC v ≤ n := by
  have a := h.2
  rw [nC_eq h.1] at a
  exact nI_le1 (nC_31 v) hn a
/-- one of so many -/
noncomputable def mHas (n : Nat) (v : Int32) : Bool := decide (0 ≤ v ∧ v < nI n)
theorem mHas_eq {n : Nat} {v : Int32} (h : mHas n v = true) : v = nI (nC v) := nC_eq (of_decide_eq_true h).1
theorem mHas_lt {n : Nat} {v : Int32} (hn : n < 2 ^ 31) (h : mHas n v = true) : nC v < n := by
  have a := (of_decide_eq_true h).2
  rw [mHas_eq h] at a
  exact nI_lt1 (nC_31 v) hn a
theorem mHas_lt9 {n k : Nat} (hn : n < 2 ^ 31) (hk : k < 2 ^ 31) (h : mHas n (nI k) = true) : k < n := by
  have a := mHas_lt hn h
  rw [nC_nI hk] at a
  exact a
theorem mHas_sub {n : Nat} (hn : n < 2 ^ 31) (v : Int32) : decide (0 ≤ v ∧ v ≤ nI n - 1) = mHas n v := by
  unfold mHas
  congr 1
  refine propext ⟨fun h => ⟨h.1, ?_⟩, fun h => ⟨h.1, ?_⟩⟩
  · have a := h.2
    rw [nC_eq h.1] at a ⊢
    cases n with
    | zero =>
      have b : (nI (nC v)).toInt ≤ (nI 0 - 1).toInt := Int32.le_iff_toInt_le.mp a
      rw [nI_toInt (nC_31 v)] at b
      have e : (nI 0 - 1).toInt = -1 := by decide
      omega
    | succ k =>
      rw [nI_pred] at a
      have b := nI_le1 (nC_31 v) (by omega) a
      exact nI_lt (by omega) hn
  · have a := h.2
    rw [nC_eq h.1] at a ⊢
    have b := nI_lt1 (nC_31 v) hn a
    cases n with
    | zero => omega
    | succ k => rw [nI_pred]; exact nI_le (by omega) (by omega)
theorem mHas_no {n : Nat} (hn : n < 2 ^ 31) {k : Nat} (h : k < n) : mHas n (nI k) = true := decide_eq_true ⟨nI_pos' (by omega), nI_lt h hn⟩
theorem upd_a9 {f : Nat → Int32} {k j : Nat} {x : Int32} (h : j = k) : upd f k x j = x := by
  subst h; show (if j = j then x else f j) = x; rw [if_pos rfl]
theorem upd_n9 {f : Nat → Int32} {k j : Nat} {x : Int32} (h : ¬ j = k) : upd f k x j = f j := by
  show (if j = k then x else f j) = f j; rw [if_neg h]
theorem upd_at {f : Nat → Int32} {k : Nat} {x : Int32} : upd f k x k = x := upd_a9 rfl
/-- what is left -/
noncomputable def iRem (x y : Int32) : Int32 := x - x / y * y
/-- an array's numbers by others that are the same up to its length -/
theorem g_ext {D : va_G} {cl : List vw_C} {ws : va_W} {H : Heap} {a : Nat} {c : ClassId} {n : Nat} {f g : Nat → Int32} (h : va_P D cl ws H) (k : Nat) (hk : ws[k]? = some (a, .inl (c, n, .inl f))) (he : ∀ i, i < n → f i = g i) : va_P D cl (ws.set k (a, .inl (c, n, .inl g))) H := by
  intro j q hj
  by_cases hjk : j = k
  · subst hjk
    have hl := (List.getElem?_eq_some_iff.mp hk).1
    rw [List.getElem?_set_self hl] at hj
    cases hj
    have h0 : H[a]? = some (vp_cell c (n, .inl f)) := h j _ hk
    have e : vp_cell c (n, .inl f) = vp_cell c (n, .inl g) := by
      show arrV c n (fun j => .int (f j)) = arrV c n (fun j => .int (g j))
      unfold arrV
      congr 1
      congr 1
      funext i
      show Value.int (f i.val) = Value.int (g i.val)
      rw [he i.val i.isLt]
    show H[a]? = some (vp_cell c (n, .inl g))
    rw [← e]
    exact h0
  · rw [List.getElem?_set_ne (Ne.symm hjk)] at hj
    exact h j q hj
theorem g_extD {A : Nat → Prop} {ws : va_W} {a : Nat} {e0 e : va_E} (h : va_D A ws) (k : Nat) (hk : ws[k]? = some (a, e0)) : va_D A (ws.set k (a, e)) := va_D.set h hk
theorem nI_rem {a d : Nat} (ha : a < 2 ^ 31) (h0 : 0 < d) (hd : d < 2 ^ 31) : nI a - nI a / nI d * nI d = nI (a % d) := by
  rw [pk_div ha h0 hd, pk_mul, pk_sub (Nat.div_mul_le_self a d)]
  congr 1
  have h := Nat.div_add_mod a d
  rw [Nat.mul_comm] at h
  omega
theorem nI_p1 (x : Int32) : x + (-1) = x - 1 := (Int32.sub_eq_add_neg ..).symm
/-- judges and pebbles as they are kept -/
noncomputable def mKeep (f g : Nat → Int32) : Nat → Int32 := fun i => if i < 12 then f i else g (i - 12)
theorem mKeep_1 {f g : Nat → Int32} {i : Nat} (h : i < 12) : mKeep f g i = f i := if_pos h
theorem mKeep_2 {f g : Nat → Int32} (i : Nat) : mKeep f g (12 + i) = g i := by
  show (if 12 + i < 12 then f (12 + i) else g (12 + i - 12)) = g i
  rw [if_neg (by omega), show 12 + i - 12 = i by omega]
theorem mKeep_of {y f g : Nat → Int32} (h : ∀ q, q < 12 → y q = f q ∧ y (12 + q) = g q) {i : Nat} (hi : i < 24) : y i = mKeep f g i := by
  by_cases h1 : i < 12
  · rw [mKeep_1 h1]; exact (h i h1).1
  · obtain ⟨q, rfl⟩ : ∃ q, i = 12 + q := ⟨i - 12, by omega⟩
    rw [mKeep_2]; exact (h q (by omega)).2
theorem mKeep_step {y f g : Nat → Int32} {k : Nat} (hk : k < 12) (h : ∀ q, q < k → y q = f q ∧ y (12 + q) = g q) (q : Nat) (hq : q < k + 1) : (upd (upd y k (f k)) (12 + k) (g k)) q = f q ∧ (upd (upd y k (f k)) (12 + k) (g k)) (12 + q) = g q := by
  by_cases e : q = k
  · subst e
    exact ⟨by rw [upd_n9 (by omega), upd_a9 rfl], upd_a9 rfl⟩
  · obtain ⟨h1, h2⟩ := h q (by omega)
    exact ⟨by rw [upd_n9 (by omega), upd_n9 e]; exact h1, by rw [upd_n9 (by omega), upd_n9 (by omega)]; exact h2⟩
theorem mLay_step {x z f g : Nat → Int32} {k : Nat} (hk : k < 12) (h : ∀ q, q < k → x q = f q ∧ z q = g q) (q : Nat) (hq : q < k + 1) : (upd x k (mKeep f g k)) q = f q ∧ (upd z k (mKeep f g (12 + k))) q = g q := by
  by_cases e : q = k
  · subst e
    exact ⟨by rw [upd_a9 rfl, mKeep_1 hk], by rw [upd_a9 rfl, mKeep_2]⟩
  · obtain ⟨h1, h2⟩ := h q (by omega)
    exact ⟨by rw [upd_n9 e]; exact h1, by rw [upd_n9 e]; exact h2⟩
theorem nC_1 {v : Int32} (h : 1 ≤ v) : 0 ≤ v := by
  have a : (1 : Int) ≤ v.toInt := Int32.le_iff_toInt_le.mp h
  exact Int32.le_iff_toInt_le.mpr (by show (0 : Int) ≤ v.toInt; omega)
theorem nC_1n {v : Int32} (h : 1 ≤ v) : 1 ≤ nC v := by
  have a : (1 : Int) ≤ v.toInt := Int32.le_iff_toInt_le.mp h
  have b : nC v = v.toInt.toNat := rfl
  omega
theorem nI_neg1 {k : Nat} (hk : k < 2 ^ 31) (h : nI k - 1 < 0) : k = 0 := by
  cases k with
  | zero => rfl
  | succ n => rw [nI_pred] at h; exact absurd h (nI_pos (by omega))
theorem nI_nneg1 {k : Nat} (h : ¬ nI k - 1 < 0) : 0 < k := by
  cases k with
  | zero => exact absurd (by decide +kernel) h
  | succ n => omega
/-- what is left of a long -/
noncomputable def lRem (x y : Int64) : Int64 := x - x / y * y
/-- so many miles and so much worn more -/
noncomputable def mMil (v : Int32) : Bool := decide ((0 ≤ v ∧ v ≤ 960) ∧ nC v % 100 ≤ 60)
theorem mMil_eq {v : Int32} (h : mMil v = true) : v = nI (nC v) := nC_eq (of_decide_eq_true h).1.1
theorem mMil_le {v : Int32} (h : mMil v = true) : nC v ≤ 960 := nC_le (n := 960) (by omega) (of_decide_eq_true h).1
theorem mMil_rem {v : Int32} (h : mMil v = true) : nC v % 100 ≤ 60 := (of_decide_eq_true h).2
theorem i2l_ne {n : Nat} (h0 : 0 < n) (h : n < 2 ^ 31) : ¬ (nI n).toInt64 = 0 := by
  intro z
  have a := congrArg Int64.toInt z
  rw [nI_l h, lN_toInt h] at a
  have b : (0 : Int64).toInt = 0 := rfl
  rw [b] at a
  omega
theorem mMil_t {v : Int32} (h : 0 ≤ v ∧ v ≤ 960) (h2 : nC v % 100 ≤ 60) : mMil v = true := decide_eq_true ⟨h, h2⟩
theorem mMil_f {v : Int32} (h : ¬ ((0 ≤ v ∧ v ≤ 960) ∧ nC v % 100 ≤ 60)) : mMil v = false := decide_eq_false h
/-- what an image holds -/
noncomputable def mHold (a b c : Int32) : Nat → Int32 := fun i => if i = 0 then a else if i = 1 then b else c
theorem mHold_of {f : Nat → Int32} {a b c : Int32} : ∀ {i : Nat}, i < 3 → (upd (upd (upd f 0 a) 1 b) 2 c) i = mHold a b c i
  | 0, _ => rfl
  | 1, _ => rfl
  | 2, _ => rfl
  | i + 3, h => by omega
theorem lN_ne0 {n : Nat} (h0 : 0 < n) (h : n < 2 ^ 31) : ¬ lN n = 0 := fun z => by
  have a := (lN_eq (a := n) (b := 0) h (by omega)).mp z
  omega
theorem lN_div {a d : Nat} (ha : a < 2 ^ 31) (h0 : 0 < d) (hd : d < 2 ^ 31) : lN a / lN d = lN (a / d) := by
  refine Int64.toInt_inj.mp ?_
  have h1 : a / d < 2 ^ 31 := Nat.lt_of_le_of_lt (Nat.div_le_self a d) ha
  rw [lg_ldiv_nonneg (by rw [lN_toInt ha]; omega) (by rw [lN_toInt hd]; omega), lN_toInt ha, lN_toInt hd, lN_toInt h1]
  rfl
theorem lN_rem {a d : Nat} (ha : a < 2 ^ 31) (h0 : 0 < d) (hd : d < 2 ^ 31) : lN a - lN a / lN d * lN d = lN (a % d) := by
  rw [lN_div ha h0 hd, lN_mul, lN_sub (Nat.div_mul_le_self a d)]
  congr 1
  have h := Nat.div_add_mod a d
  rw [Nat.mul_comm] at h
  omega
theorem lN_z (a : Nat) : lN a + 0 = lN a := lN_add a 0
theorem lgc_eq {n : Nat} (h : n < 2 ^ 31) (c : lg_cmp (lN n) 0 = 0) : n = 0 := by
  cases n with
  | zero => rfl
  | succ k =>
    have a : ¬ (lN (k + 1) > 0) → False := fun z => z ((lN_lt (a := 0) (b := k + 1) (by omega) h).mpr (by omega))
    unfold lg_cmp at c
    by_cases z : lN (k + 1) > 0
    · rw [if_pos z] at c; exact absurd c (by decide +kernel)
    · exact (a z).elim
theorem lgc_ne {n : Nat} (_h : n < 2 ^ 31) (c : ¬ lg_cmp (lN n) 0 = 0) : ¬ n = 0 := fun z => by
  subst z
  exact c (by decide +kernel)
theorem gcd_step (a b : Nat) : Nat.gcd b (a % b) = Nat.gcd a b := by
  rw [Nat.gcd_comm b, ← Nat.gcd_rec, Nat.gcd_comm]
noncomputable def mLow (sa sb : Nat) (v : Int32) : Int64 := if sa = 0 then v.toInt64 else (if v = 0 then lN sa else lN sb) / lN (Nat.gcd sa sb)
/-- a place from a number on, two by two, that doesn't run over -/
theorem pbIx {v : Int32} {k sz : Nat} (hv : v = nI (nC v)) (h31 : nC v < 2 ^ 31) (hk : k < 6) (hs : sz ≤ 40) (h1 : ¬ v + nI (2 * k) < nI (nC v)) (h2 : v + nI (2 * k) ≤ nI sz - 2) : nC v + 2 * k + 2 ≤ sz ∧ v + nI (2 * k) = nI (nC v + 2 * k) := by
  have e : v + nI (2 * k) = nI (nC v + 2 * k) := by
    conv => lhs; rw [hv]
    exact nI_add _ _
  rw [e] at h1 h2
  have a2 : (nI (nC v + 2 * k)).toInt ≤ (nI sz - 2).toInt := Int32.le_iff_toInt_le.mp h2
  have a3 : (nI sz - 2).toInt = (sz : Int) - 2 := (by decide +kernel : ∀ s, s < 41 → (nI s - 2).toInt = (s : Int) - 2) sz (by omega)
  rw [a3] at a2
  by_cases o : nC v + 2 * k < 2 ^ 31
  · rw [nI_toInt o] at a2
    exact ⟨by omega, e⟩
  · exfalso
    have a1 : ¬ (nI (nC v + 2 * k)).toInt < (nI (nC v)).toInt := fun z => h1 (Int32.lt_iff_toInt_lt.mpr z)
    rw [nI_toInt h31] at a1
    omega
