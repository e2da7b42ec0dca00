/-! what the class reads stands well: codes in blocks that add one number -/
noncomputable def st32 (c : Int32) (n : Nat) : Option Nat :=
  if 100000 ≤ c ∨ c < 11 then (if (c < 11 → 0 ≤ c ∧ c < 6) ∧ n < 32 then some (n + 1) else none)
  else if c = 13 ∨ c = 19 then (if 1 ≤ n then some n else none) else (if 2 ≤ n then some (n - 1) else none)
noncomputable def sg (f : Nat → Int32) : Nat → Nat → Nat → Option Nat
  | 0, _, n => some n
  | q + 1, k, n => (st32 (f k) n).bind (fun m => sg f q (k + 1) m)
theorem sgw_ok {f : Nat → Int32} : ∀ {q k n : Nat}, sg f q k n = some 1 → vOK 32 f q k n
  | 0, k, n, h => by
    rw [sg] at h
    rw [vOK]
    exact Option.some.inj h
  | q + 1, k, n, h => by
    rw [sg] at h
    rw [vOK]
    unfold st32 at h
    by_cases c1 : 100000 ≤ f k ∨ f k < 11
    · rw [if_pos c1] at h ⊢
      by_cases c2 : (f k < 11 → 0 ≤ f k ∧ f k < 6) ∧ n < 32
      · rw [if_pos c2] at h; exact ⟨c2, sgw_ok h⟩
      · rw [if_neg c2] at h; cases h
    · rw [if_neg c1] at h ⊢
      by_cases c2 : f k = 13 ∨ f k = 19
      · rw [if_pos c2] at h ⊢
        by_cases c3 : 1 ≤ n
        · rw [if_pos c3] at h; exact ⟨c3, sgw_ok h⟩
        · rw [if_neg c3] at h; cases h
      · rw [if_neg c2] at h ⊢
        by_cases c3 : 2 ≤ n
        · rw [if_pos c3] at h; exact ⟨c3, sgw_ok h⟩
        · rw [if_neg c3] at h; cases h
theorem sg_app {f : Nat → Int32} {q2 m : Nat} {r : Option Nat} : ∀ {q k n : Nat}, sg f q k n = some m → sg f q2 (k + q) m = r → sg f (q + q2) k n = r
  | 0, k, n, h, h2 => by
    rw [sg] at h
    have e := Option.some.inj h
    subst e
    rw [Nat.zero_add]
    exact h2
  | q + 1, k, n, h, h2 => by
    rw [sg] at h
    cases e : st32 (f k) n with
    | none => rw [e] at h; cases h
    | some m2 =>
      rw [e] at h
      rw [show q + 1 + q2 = (q + q2) + 1 by omega, sg, e]
      exact sg_app (q := q) h (by rw [show k + 1 + q = k + (q + 1) by omega]; exact h2)
theorem sg_eq {f g : Nat → Int32} : ∀ {q k n : Nat}, (∀ i, k ≤ i → i < k + q → f i = g i) → sg f q k n = sg g q k n
  | 0, _, _, _ => rfl
  | q + 1, k, n, h => by
    rw [sg, sg, h k (Nat.le_refl _) (by omega)]
    congr 1
    funext m
    exact sg_eq (fun i h1 h2 => h i (by omega) (by omega))
def bl (f : Nat → Int32) (w w1 H : Nat) : Prop := w < w1 ∧ ∀ n, n + H ≤ 32 → sg f (w1 - w) w n = some (n + 1)
theorem bl_mono {f : Nat → Int32} {w w1 H H2 : Nat} (h : bl f w w1 H) (hh : H ≤ H2) : bl f w w1 H2 := ⟨h.1, fun n hn => h.2 n (by omega)⟩
theorem bl_eq {f g : Nat → Int32} {w w1 H : Nat} (h : bl f w w1 H) (e : ∀ i, w ≤ i → i < w1 → f i = g i) : bl g w w1 H := ⟨h.1, fun n hn => by
  rw [← sg_eq (f := f) (fun i h1 h2 => e i h1 (by have := h.1; omega))]
  exact h.2 n hn⟩
theorem bl_push {f : Nat → Int32} {w : Nat} (h : ∀ n, n < 32 → st32 (f w) n = some (n + 1)) : bl f w (w + 1) 1 := ⟨Nat.lt_succ_self w, fun n hn => by
  rw [show w + 1 - w = 0 + 1 by omega, sg, h n (by omega)]
  rfl⟩
theorem bl_un {f : Nat → Int32} {w w1 H : Nat} (h : bl f w w1 H) (c : f w1 = 13 ∨ f w1 = 19) : bl f w (w1 + 1) H := ⟨by have := h.1; omega, fun n hn => by
  have h1 := h.1
  rw [show w1 + 1 - w = (w1 - w) + 1 by omega]
  refine sg_app (h.2 n hn) ?_
  rw [show w + (w1 - w) = w1 by omega, sg]
  have e : st32 (f w1) (n + 1) = some (n + 1) := by
    unfold st32
    rw [if_neg (by rcases c with e | e <;> rw [e] <;> decide), if_pos c, if_pos (by omega)]
  rw [e]
  rfl⟩
def isBin (c : Int32) : Prop := c = 11 ∨ c = 12 ∨ c = 14 ∨ c = 15 ∨ c = 16 ∨ c = 17 ∨ c = 18
theorem st32_bin {c : Int32} (h : isBin c) (n : Nat) : st32 c (n + 2) = some (n + 1) := by
  unfold st32
  have a1 : ¬ (100000 ≤ c ∨ c < 11) := by rcases h with e | e | e | e | e | e | e <;> rw [e] <;> decide
  have a2 : ¬ (c = 13 ∨ c = 19) := by rcases h with e | e | e | e | e | e | e <;> rw [e] <;> decide
  rw [if_neg a1, if_neg a2, if_pos (by omega)]
  rfl
theorem bl_bin {f : Nat → Int32} {w w1 w2 H1 H2 H : Nat} (h1 : bl f w w1 H1) (h2 : bl f w1 w2 H2) (c : isBin (f w2)) (k1 : H1 ≤ H) (k2 : H2 + 1 ≤ H) : bl f w (w2 + 1) H := by
  have a1 := h1.1
  have a2 := h2.1
  refine ⟨by omega, fun n hn => ?_⟩
  rw [show w2 + 1 - w = (w1 - w) + ((w2 - w1) + 1) by omega]
  refine sg_app (h1.2 n (by omega)) ?_
  rw [show w + (w1 - w) = w1 by omega]
  refine sg_app (h2.2 (n + 1) (by omega)) ?_
  rw [show w1 + (w2 - w1) = w2 by omega, sg, show n + 1 + 1 = n + 2 by omega, st32_bin c n]
  rfl
theorem st32_num {k n : Nat} (h : k < 10000) (hn : n < 32) : st32 (trX (nI k)) n = some (n + 1) := by
  rw [tX_num h]
  unfold st32
  have a1 : (100000 : Int32) ≤ nI (k + 100000) := nI_le (a := 100000) (by omega) (by omega)
  have a2 : ¬ nI (k + 100000) < (11 : Int32) := nI_nlt (a := k + 100000) (b := 11) (by omega) (by omega)
  rw [if_pos (Or.inl a1), if_pos ⟨fun z => absurd z a2, hn⟩]
theorem st32_nam {k n : Nat} (h : k < 6) (hn : n < 32) : st32 (trX (nI (10000 + k))) n = some (n + 1) := by
  rw [tX_nam (by omega) (by omega), show 10000 + k - 10000 = k by omega]
  unfold st32
  have a1 : nI k < (11 : Int32) := nI_lt (a := k) (b := 11) (by omega) (by omega)
  have a2 : nI k < (6 : Int32) := nI_lt (a := k) (b := 6) (by omega) (by omega)
  rw [if_pos (Or.inr a1), if_pos ⟨fun _ => ⟨nI_pos' (by omega), a2⟩, hn⟩]
/-! tokens -/
theorem mWords_or {f : Nat → Int32} {a p : Nat} : ∀ (m k : Nat) (x : Int32 × Int32), mWords f a p m k x = x ∨ ∃ j, k ≤ j ∧ j < k + m ∧ mWords f a p m k x = ((if j < 6 then nI (100 + j) else 3), nI j - 6)
  | 0, k, x => Or.inl rfl
  | m + 1, k, x => by
    rw [mWords]
    rcases mWords_or (f := f) (a := a) (p := p) m (k + 1) (if mSp f a p k = true then ((if k < 6 then nI (100 + k) else 3), nI k - 6) else x) with h | ⟨j, h1, h2, h3⟩
    · rw [h]
      by_cases c : mSp f a p k = true
      · rw [if_pos c]; exact Or.inr ⟨k, Nat.le_refl _, by omega, rfl⟩
      · rw [if_neg c]; exact Or.inl rfl
    · exact Or.inr ⟨j, by omega, by omega, h3⟩
theorem dg_step {v j : Nat} {c : Int32} (hv : v < 10 ^ j) (hj : j < 4) (h : mDig c = true) : ∃ d, d < 10 ^ (j + 1) ∧ 10 * nI v + (c - 48) = nI d := by
  have hc : 48 ≤ c ∧ c ≤ 57 := of_decide_eq_true h
  have h4 : 10 ^ j ≤ 1000 := Nat.le_trans (Nat.pow_le_pow_right (by decide +kernel) (show j ≤ 3 by omega)) (by decide +kernel)
  obtain ⟨k, k1, k2, e⟩ := nx_rng (a := 48) (b := 58) (c := c) (by omega) (by omega) hc.1 (by
    have z : c.toInt ≤ (57 : Int32).toInt := Int32.le_iff_toInt_le.mp hc.2
    have z2 : (57 : Int32).toInt = 57 := rfl
    exact Int32.lt_iff_toInt_lt.mpr (by show c.toInt < (58 : Int); omega))
  subst e
  have e1 : nI k - 48 = nI (k - 48) := pk_sub (b := 48) k1
  have e2 : (10 : Int32) * nI v = nI (10 * v) := pk_mul 10 v
  refine ⟨10 * v + (k - 48), by rw [Nat.pow_succ]; omega, ?_⟩
  rw [e1, e2]
  exact nI_add _ _
theorem mNumR_val {f : Nat → Int32} {n : Nat} : ∀ (k a j v : Nat), v < 10 ^ j → a ≤ (mNumR f n k a (nI v)).1 ∧ ((mNumR f n k a (nI v)).1 - a + j ≤ 4 → ∃ w, w < 10 ^ ((mNumR f n k a (nI v)).1 - a + j) ∧ (mNumR f n k a (nI v)).2 = nI w)
  | 0, a, j, v, hv => ⟨Nat.le_refl _, fun _ => ⟨v, by show v < 10 ^ (a - a + j); rw [Nat.sub_self, Nat.zero_add]; exact hv, rfl⟩⟩
  | k + 1, a, j, v, hv => by
    rw [mNumR]
    by_cases c : (decide (a < n) && mDig (f a)) = true
    · rw [if_pos c]
      have hd : mDig (f a) = true := by simp at c; exact c.2
      by_cases hj : j < 4
      · obtain ⟨d, h1, h2⟩ := dg_step hv hj hd
        rw [h2]
        obtain ⟨i1, i2⟩ := mNumR_val (f := f) (n := n) k (a + 1) (j + 1) d h1
        refine ⟨by omega, fun hz => ?_⟩
        obtain ⟨w, w1, w2⟩ := i2 (by omega)
        refine ⟨w, ?_, w2⟩
        rw [show (mNumR f n k (a + 1) (nI d)).1 - a + j = (mNumR f n k (a + 1) (nI d)).1 - (a + 1) + (j + 1) by omega]
        exact w1
      · have hle : ∀ (k b : Nat) (m : Int32), b ≤ (mNumR f n k b m).1 := by
          intro k
          induction k with
          | zero => intro b m; exact Nat.le_refl _
          | succ k ih =>
            intro b m
            rw [mNumR]
            by_cases c2 : (decide (b < n) && mDig (f b)) = true
            · rw [if_pos c2]; have := ih (b + 1) (10 * m + (f b - 48)); omega
            · rw [if_neg c2]; exact Nat.le_refl _
        have h3 := hle k (a + 1) (10 * nI v + (f a - 48))
        exact ⟨by omega, fun hz => absurd hz (by omega)⟩
    · rw [if_neg c]
      exact ⟨Nat.le_refl _, fun _ => ⟨v, by show v < 10 ^ (a - a + j); rw [Nat.sub_self, Nat.zero_add]; exact hv, rfl⟩⟩
/-- the state stands: the token's place, what it means -/
def gI (n : Nat) (s : gT) : Prop := s.2.2.1 ≤ s.1 ∧ s.1 ≤ n ∧ (¬ s.2.1 = 0 → s.2.2.1 < s.1) ∧ (s.2.1 = 2 → ∃ k, k < 10000 ∧ s.2.2.2.1 = nI k) ∧ (s.2.1 = 3 → ∃ k, k < 6 ∧ s.2.2.2.1 = nI k)
theorem mNextAt_I {f : Nat → Int32} {n a w : Nat} {mn : Int32} {ct : Nat → Int32} (h : a ≤ n) : gI n ((mNextAt f n a mn).1, (mNextAt f n a mn).2.1, (mNextAt f n a mn).2.2.1, (mNextAt f n a mn).2.2.2, w, ct) ∧ (mNextAt f n a mn).2.2.1 = a := by
  unfold mNextAt
  by_cases c : n ≤ a
  · rw [if_pos c]
    exact ⟨⟨Nat.le_refl _, h, fun z => absurd rfl z, fun z => absurd (show (0 : Int32) = 2 from z) (by decide +kernel), fun z => absurd (show (0 : Int32) = 3 from z) (by decide +kernel)⟩, rfl⟩
  · rw [if_neg c]
    by_cases c1 : mLet (f a) = true
    · rw [if_pos c1]
      have g1 : mRun mLet f n (n - a) a = mRun mLet f n (n - (a + 1)) (a + 1) := mRun_go (by omega) c1
      have g2 := mRun_le mLet f n (n - (a + 1)) (a + 1) (by omega)
      rw [← g1] at g2
      have hw := mWords_or (f := f) (a := mRun mLet f n (n - a) a) (p := a) 12 0 (1, mn)
      refine ⟨⟨?_, g2.2, fun _ => ?_, fun z => ?_, fun z => ?_⟩, rfl⟩
      · show a ≤ mRun mLet f n (n - a) a; omega
      · show a < mRun mLet f n (n - a) a; omega
      · exfalso
        have z : (mWords f (mRun mLet f n (n - a) a) a 12 0 (1, mn)).1 = 2 := z
        rcases hw with e | ⟨j, j1, j2, e⟩
        · rw [e] at z; exact absurd (show (1 : Int32) = 2 from z) (by decide +kernel)
        · rw [e] at z
          have z : (if j < 6 then nI (100 + j) else 3) = (2 : Int32) := z
          by_cases q : j < 6
          · rw [if_pos q] at z
            exact absurd (nI_eq1 (a := 100 + j) (b := 2) (by omega) (by omega) z) (by omega)
          · rw [if_neg q] at z; exact absurd z (by decide +kernel)
      · have z : (mWords f (mRun mLet f n (n - a) a) a 12 0 (1, mn)).1 = 3 := z
        show ∃ k, k < 6 ∧ (mWords f (mRun mLet f n (n - a) a) a 12 0 (1, mn)).2 = nI k
        rcases hw with e | ⟨j, j1, j2, e⟩
        · rw [e] at z; exact absurd (show (1 : Int32) = 3 from z) (by decide +kernel)
        · rw [e] at z ⊢
          have z : (if j < 6 then nI (100 + j) else 3) = (3 : Int32) := z
          by_cases q : j < 6
          · rw [if_pos q] at z
            exact absurd (nI_eq1 (a := 100 + j) (b := 3) (by omega) (by omega) z) (by omega)
          · exact ⟨j - 6, by omega, pk_sub (b := 6) (by omega)⟩
    · rw [if_neg c1]
      by_cases c2 : mDig (f a) = true
      · rw [if_pos c2]
        have g1 : mNumR f n (n - a) a 0 = mNumR f n (n - (a + 1)) (a + 1) (10 * 0 + (f a - 48)) := mNumR_go (by omega) c2
        have g2 := mNumR_le f n (n - (a + 1)) (a + 1) (10 * 0 + (f a - 48)) (by omega)
        rw [← g1] at g2
        have g3 := (mNumR_val (f := f) (n := n) (n - a) a 0 0 (by decide +kernel)).2
        refine ⟨⟨?_, g2.2, fun _ => ?_, fun z => ?_, fun z => ?_⟩, rfl⟩
        · show a ≤ (mNumR f n (n - a) a 0).1; omega
        · show a < (mNumR f n (n - a) a 0).1; omega
        · have z : (if 4 < (mNumR f n (n - a) a 0).1 - a then (1 : Int32) else 2) = 2 := z
          show ∃ k, k < 10000 ∧ (mNumR f n (n - a) a 0).2 = nI k
          by_cases q : 4 < (mNumR f n (n - a) a 0).1 - a
          · rw [if_pos q] at z; exact absurd z (by decide +kernel)
          · obtain ⟨w, w1, w2⟩ := g3 (show (mNumR f n (n - a) a 0).1 - a + 0 ≤ 4 by omega)
            refine ⟨w, Nat.lt_of_lt_of_le w1 ?_, w2⟩
            exact Nat.le_trans (Nat.pow_le_pow_right (by decide +kernel) (show (mNumR f n (n - a) a 0).1 - a + 0 ≤ 4 by omega)) (by decide +kernel)
        · exfalso
          have z : (if 4 < (mNumR f n (n - a) a 0).1 - a then (1 : Int32) else 2) = 3 := z
          by_cases q : 4 < (mNumR f n (n - a) a 0).1 - a
          · rw [if_pos q] at z; exact absurd z (by decide +kernel)
          · rw [if_neg q] at z; exact absurd z (by decide +kernel)
      · rw [if_neg c2]
        have no : ∀ t : Int32, t = 2 ∨ t = 3 → ¬ (if 0 ≤ gIx 12 (mChar (f a)) then f a else 1) = t := by
          intro t ht z
          by_cases q : 0 ≤ gIx 12 (mChar (f a))
          · rw [if_pos q] at z
            rw [z] at q
            rcases ht with e | e
            · subst e; exact absurd q (by decide +kernel)
            · subst e; exact absurd q (by decide +kernel)
          · rw [if_neg q] at z
            rcases ht with e | e <;> subst e <;> exact absurd z (by decide +kernel)
        refine ⟨⟨Nat.le_succ a, ?_, fun _ => Nat.lt_succ_self a, fun z => absurd z (no 2 (Or.inl rfl)), fun z => absurd z (no 3 (Or.inr rfl))⟩, rfl⟩
        show a + 1 ≤ n
        omega
theorem gNx_I {f : Nat → Int32} {n : Nat} {s : gT} (h : s.1 ≤ n) : gI n (gNx f n s) ∧ s.1 ≤ (gNx f n s).2.2.1 := by
  have h1 := mRun_le mBlank f n (n - s.1) s.1 h
  have h2 := mNextAt_I (f := f) (w := s.2.2.2.2.1) (mn := s.2.2.2.1) (ct := s.2.2.2.2.2) h1.2
  refine ⟨h2.1, ?_⟩
  show s.1 ≤ (mNextAt f n (mRun mBlank f n (n - s.1) s.1) s.2.2.2.1).2.2.1
  rw [h2.2]
  exact h1.1
/-- what such a reader lays: codes that add one number -/
def gQ (n k H : Nat) (s u : gT) (w0 : Nat) : Prop := gI n u ∧ s.2.2.2.2.1 ≤ u.2.2.2.2.1 ∧ u.2.2.2.2.1 + k ≤ u.2.2.1 ∧ (∀ i, i < s.2.2.2.2.1 → u.2.2.2.2.2 i = s.2.2.2.2.2 i) ∧ (∀ i, w0 ≤ i → i < u.2.2.2.2.1 → lgX (u.2.2.2.2.2 i)) ∧ bl (fun i => trX (u.2.2.2.2.2 i)) w0 u.2.2.2.2.1 H
def gGd (n H : Nat) (X : gF1) : Prop := ∀ (s u : gT) (k : Nat), gI n s → s.2.2.2.2.1 + k ≤ s.2.2.1 → X s = (true, u) → gQ n k H s u s.2.2.2.2.1
theorem gGd_mono {n H H2 : Nat} {X : gF1} (h : gGd n H X) (hh : H ≤ H2) : gGd n H2 X := fun s u k a b c => by
  obtain ⟨q1, q2, q3, q4, q5, q6⟩ := h s u k a b c
  exact ⟨q1, q2, q3, q4, q5, bl_mono q6 hh⟩
theorem gWr_in {c : Int32} {s : gT} (h : s.2.2.2.2.1 < 160) : gWr c s = (s.1, s.2.1, s.2.2.1, s.2.2.2.1, s.2.2.2.2.1 + 1, upd s.2.2.2.2.2 s.2.2.2.2.1 c) := by
  unfold gWr gWc
  rw [if_pos h]
theorem gGd_put {f : Nat → Int32} {n k : Nat} {s u : gT} {c : Int32} (hn : n ≤ 160) (hs : gI n s) (hk : s.2.2.2.2.1 + k ≤ s.2.2.1) (h0 : ¬ s.2.1 = 0) (hc : lgX c) (hp : ∀ m, m < 32 → st32 (trX c) m = some (m + 1)) (hu : gNx f n (gWr c s) = u) : gQ n k 1 s u s.2.2.2.2.1 := by
  have hw : s.2.2.2.2.1 < 160 := by have := hs.2.2.1 h0; have := hs.2.1; omega
  rw [gWr_in hw] at hu
  subst hu
  obtain ⟨a1, a2⟩ := gNx_I (f := f) (n := n) (s := (s.1, s.2.1, s.2.2.1, s.2.2.2.1, s.2.2.2.2.1 + 1, upd s.2.2.2.2.2 s.2.2.2.2.1 c)) hs.2.1
  refine ⟨a1, Nat.le_succ _, ?_, fun i hi => ?_, fun i h1 h2 => ?_, ?_⟩
  · have b1 := hs.2.2.1 h0
    have b2 : s.1 ≤ (gNx f n (s.1, s.2.1, s.2.2.1, s.2.2.2.1, s.2.2.2.2.1 + 1, upd s.2.2.2.2.2 s.2.2.2.2.1 c)).2.2.1 := a2
    show s.2.2.2.2.1 + 1 + k ≤ (gNx f n (s.1, s.2.1, s.2.2.1, s.2.2.2.1, s.2.2.2.2.1 + 1, upd s.2.2.2.2.2 s.2.2.2.2.1 c)).2.2.1
    omega
  · show upd s.2.2.2.2.2 s.2.2.2.2.1 c i = s.2.2.2.2.2 i
    exact upd_n9 (by omega)
  · show lgX (upd s.2.2.2.2.2 s.2.2.2.2.1 c i)
    have h2 : i < s.2.2.2.2.1 + 1 := h2
    rw [upd_a9 (by omega)]
    exact hc
  · refine bl_push (fun m hm => ?_)
    show st32 (trX (upd s.2.2.2.2.2 s.2.2.2.2.1 c s.2.2.2.2.1)) m = some (m + 1)
    rw [upd_a9 rfl]
    exact hp m hm
/-- a code behind what was laid -/
theorem gQ_wr {n k H H2 w0 : Nat} {s u v : gT} {c : Int32} (hn : n ≤ 160) (h : gQ n (k + 1) H s u w0) (hc : lgX c) (hu : gWr c u = v) (hb : ∀ g : Nat → Int32, (∀ i, i < u.2.2.2.2.1 → g i = trX (u.2.2.2.2.2 i)) → g u.2.2.2.2.1 = trX c → bl g w0 (u.2.2.2.2.1 + 1) H2) : gQ n k H2 s v w0 := by
  obtain ⟨q1, q2, q3, q4, q5, q6⟩ := h
  have hw : u.2.2.2.2.1 < 160 := by have := q1.1; have := q1.2.1; omega
  rw [gWr_in hw] at hu
  subst hu
  refine ⟨q1, by show s.2.2.2.2.1 ≤ u.2.2.2.2.1 + 1; omega, by show u.2.2.2.2.1 + 1 + k ≤ u.2.2.1; omega, fun i hi => ?_, fun i h1 h2 => ?_, ?_⟩
  · show upd u.2.2.2.2.2 u.2.2.2.2.1 c i = s.2.2.2.2.2 i
    rw [upd_n9 (by omega)]
    exact q4 i hi
  · show lgX (upd u.2.2.2.2.2 u.2.2.2.2.1 c i)
    have h2 : i < u.2.2.2.2.1 + 1 := h2
    by_cases e : i = u.2.2.2.2.1
    · rw [upd_a9 e]; exact hc
    · rw [upd_n9 e]; exact q5 i h1 (by omega)
  · refine hb _ (fun i hi => ?_) ?_
    · show trX (upd u.2.2.2.2.2 u.2.2.2.2.1 c i) = _
      rw [upd_n9 (by omega)]
    · show trX (upd u.2.2.2.2.2 u.2.2.2.2.1 c u.2.2.2.2.1) = _
      rw [upd_a9 rfl]
theorem gQ_un {n k H w0 : Nat} {s u v : gT} {c : Int32} (hn : n ≤ 160) (h : gQ n (k + 1) H s u w0) (hc : lgX c) (h1 : trX c = 13 ∨ trX c = 19) (hu : gWr c u = v) : gQ n k H s v w0 :=
  gQ_wr hn h hc hu (fun g g1 g2 => bl_un (bl_eq h.2.2.2.2.2 (fun i _ i2 => (g1 i i2).symm)) (by rw [g2]; exact h1))
/-- from a state behind another one's token -/
theorem gI_step {f : Nat → Int32} {n k : Nat} {s : gT} (hs : gI n s) (hk : s.2.2.2.2.1 + k ≤ s.2.2.1) (h0 : ¬ s.2.1 = 0) : gI n (gNx f n s) ∧ (gNx f n s).2.2.2.2.1 + (k + 1) ≤ (gNx f n s).2.2.1 := by
  obtain ⟨a1, a2⟩ := gNx_I (f := f) (s := s) hs.2.1
  refine ⟨a1, ?_⟩
  have b := hs.2.2.1 h0
  show s.2.2.2.2.1 + (k + 1) ≤ (gNx f n s).2.2.1
  omega
theorem gQ_nx {f : Nat → Int32} {n k H w0 : Nat} {s u : gT} (h : gQ n k H s u w0) : gQ n k H s (gNx f n u) w0 := by
  obtain ⟨q1, q2, q3, q4, q5, q6⟩ := h
  obtain ⟨a1, a2⟩ := gNx_I (f := f) (s := u) q1.2.1
  refine ⟨a1, q2, ?_, q4, q5, q6⟩
  have b := q1.1
  show u.2.2.2.2.1 + k ≤ (gNx f n u).2.2.1
  omega
theorem gQ_k {n k H w0 : Nat} {s u : gT} (h : gQ n (k + 1) H s u w0) : gQ n k H s u w0 := by
  obtain ⟨q1, q2, q3, q4, q5, q6⟩ := h
  exact ⟨q1, q2, by omega, q4, q5, q6⟩
theorem gBind_inv {α : Type} {x : Bool × α} {k : α → Bool × α} {v : α} (h : gBind x k = (true, v)) : ∃ u, x = (true, u) ∧ k u = (true, v) := by
  obtain ⟨b, u⟩ := x
  cases b with
  | true => exact ⟨u, rfl, h⟩
  | false => exact absurd (congrArg Prod.fst h) (by show ¬ false = true; decide)
def okTk (q : Int32 → Bool) : Prop := ∀ t, q t = true → lgX (20000 + t) ∧ isBin (trX (20000 + t)) ∧ ¬ t = 0
theorem gLp_gd {f : Nat → Int32} {n H HH k w0 : Nat} {q : Int32 → Bool} {X : gF1} (hn : n ≤ 160) (hX : gGd n H X) (hq : okTk q) (hH : H + 1 ≤ HH) (s0 : gT) : ∀ (fu : Nat) (s u : gT), gQ n k HH s0 s w0 → gLp f n q X fu s = (true, u) → gQ n k HH s0 u w0
  | 0, s, u, h, e => by
    rw [gLp] at e
    have e2 : s = u := congrArg Prod.snd e
    subst e2
    exact h
  | fu + 1, s, u, h, e => by
    rw [gLp] at e
    by_cases c : q s.2.1 = true
    · rw [if_pos c] at e
      obtain ⟨v, e1, e2⟩ := gBind_inv e
      obtain ⟨c1, c2, c3⟩ := hq _ c
      obtain ⟨b1, b2⟩ := gI_step (f := f) h.1 h.2.2.1 c3
      have hv := hX _ _ _ b1 b2 e1
      obtain ⟨q1, q2, q3, q4, q5, q6⟩ := h
      obtain ⟨r1, r2, r3, r4, r5, r6⟩ := hv
      have r2 : s.2.2.2.2.1 ≤ v.2.2.2.2.1 := r2
      have r4 : ∀ i, i < s.2.2.2.2.1 → v.2.2.2.2.2 i = s.2.2.2.2.2 i := r4
      have r5 : ∀ i, s.2.2.2.2.1 ≤ i → i < v.2.2.2.2.1 → lgX (v.2.2.2.2.2 i) := r5
      have r6 : bl (fun i => trX (v.2.2.2.2.2 i)) s.2.2.2.2.1 v.2.2.2.2.1 H := r6
      have hz : gQ n (k + 1) 99 s0 v s.2.2.2.2.1 := ⟨r1, by omega, r3, fun i hi => by rw [r4 i (by omega)]; exact q4 i hi, r5, by
        exact ⟨r6.1, fun m hm => absurd hm (by omega)⟩⟩
      have hz2 : gQ n k HH s0 (gWr (20000 + s.2.1) v) w0 := by
        have g := gQ_wr (H2 := 99) hn hz c1 rfl (fun g _ _ => ⟨by have := r6.1; omega, fun m hm => absurd hm (by omega)⟩)
        obtain ⟨p1, p2, p3, p4, p5, p6⟩ := g
        have hw : v.2.2.2.2.1 < 160 := by have := r1.1; have := r1.2.1; omega
        have eW := gWr_in (c := 20000 + s.2.1) hw
        rw [eW] at p1 p2 p3 p4 p5 p6 ⊢
        refine ⟨p1, p2, p3, p4, fun i i1 i2 => ?_, ?_⟩
        · by_cases z : s.2.2.2.2.1 ≤ i
          · exact p5 i z i2
          · show lgX (upd v.2.2.2.2.2 v.2.2.2.2.1 (20000 + s.2.1) i)
            rw [upd_n9 (by omega), r4 i (by omega)]
            exact q5 i i1 (by omega)
        · refine bl_bin (w1 := s.2.2.2.2.1) (w2 := v.2.2.2.2.1) (H1 := HH) (H2 := H) (bl_eq q6 (fun i _ i2 => ?_)) (bl_eq r6 (fun i _ i2 => ?_)) ?_ (Nat.le_refl _) hH
          · show trX (s.2.2.2.2.2 i) = trX (upd v.2.2.2.2.2 v.2.2.2.2.1 (20000 + s.2.1) i)
            rw [upd_n9 (by omega), r4 i i2]
          · show trX (v.2.2.2.2.2 i) = trX (upd v.2.2.2.2.2 v.2.2.2.2.1 (20000 + s.2.1) i)
            rw [upd_n9 (by omega)]
          · show isBin (trX (upd v.2.2.2.2.2 v.2.2.2.2.1 (20000 + s.2.1) v.2.2.2.2.1))
            rw [upd_a9 rfl]
            exact c2
      exact gLp_gd hn hX hq hH s0 fu _ u hz2 e2
    · rw [if_neg c] at e
      have e2 : s = u := congrArg Prod.snd e
      subst e2
      exact h
theorem gCh_gd {f : Nat → Int32} {n H : Nat} {q : Int32 → Bool} {X : gF1} (hn : n ≤ 160) (hX : gGd n H X) (hq : okTk q) : gGd n (H + 1) (fun s => gBind (X s) (gLp f n q X 160)) := fun s u k a b c => by
  obtain ⟨v, e1, e2⟩ := gBind_inv c
  exact gLp_gd hn hX hq (Nat.le_refl _) s 160 v u (by
    obtain ⟨q1, q2, q3, q4, q5, q6⟩ := hX s v k a b e1
    exact ⟨q1, q2, q3, q4, q5, bl_mono q6 (Nat.le_succ _)⟩) e2
theorem ok42 : okTk (fun t => decide (t = 42)) := fun t h => by have e := of_decide_eq_true h; subst e; exact ⟨by unfold lgX; decide, by unfold isBin; decide, by decide⟩
theorem ok43 : okTk (fun t => decide (t = 43 ∨ t = 45)) := fun t h => by
  rcases of_decide_eq_true h with e | e
  · subst e; exact ⟨by unfold lgX; decide, by unfold isBin; decide, by decide⟩
  · subst e; exact ⟨by unfold lgX; decide, by unfold isBin; decide, by decide⟩
theorem ok104 : okTk (fun t => decide (t = 104)) := fun t h => by have e := of_decide_eq_true h; subst e; exact ⟨by unfold lgX; decide, by unfold isBin; decide, by decide⟩
theorem ok103 : okTk (fun t => decide (t = 103)) := fun t h => by have e := of_decide_eq_true h; subst e; exact ⟨by unfold lgX; decide, by unfold isBin; decide, by decide⟩
/-- the deeper readers, so high -/
noncomputable def gDd (n H1 H2 H3 : Nat) : gD → Prop
  | none => True
  | some d => gGd n H1 d.1 ∧ gGd n H2 d.2.1 ∧ gGd n H3 d.2.2
theorem gOne_gd {f : Nat → Int32} {n H H1 H2 H3 : Nat} {D : gD} (hn : n ≤ 160) (hD : gDd n H1 H2 H3 D) (h0 : 1 ≤ H) (h1 : H1 ≤ H) (h3 : H3 ≤ H) : gGd n H (gOneB f n D) := fun s u k a b c => by
  unfold gOneB at c
  by_cases c1 : s.2.1 = 2
  · rw [if_pos c1] at c
    obtain ⟨v, v1, v2⟩ := a.2.2.2.1 c1
    have g := gGd_put (f := f) (u := u) hn a b (by rw [c1]; decide) (c := s.2.2.2.1) (by rw [v2]; exact Or.inl ⟨nI_pos' (by omega), nI_lt (b := 10000) v1 (by omega)⟩) (fun m hm => by rw [v2]; exact st32_num v1 hm) (congrArg Prod.snd c)
    obtain ⟨q1, q2, q3, q4, q5, q6⟩ := g
    exact ⟨q1, q2, q3, q4, q5, bl_mono q6 h0⟩
  · rw [if_neg c1] at c
    by_cases c2 : s.2.1 = 3
    · rw [if_pos c2] at c
      obtain ⟨v, v1, v2⟩ := a.2.2.2.2 c2
      have e : 10000 + s.2.2.2.1 = nI (10000 + v) := by rw [v2]; exact nI_add 10000 v
      have g := gGd_put (f := f) (u := u) hn a b (by rw [c2]; decide) (c := 10000 + s.2.2.2.1) (by rw [e]; exact Or.inr (Or.inl ⟨nI_le (a := 10000) (by omega) (by omega), nI_lt (b := 10006) (by omega) (by omega)⟩)) (fun m hm => by rw [e]; exact st32_nam v1 hm) (congrArg Prod.snd c)
      obtain ⟨q1, q2, q3, q4, q5, q6⟩ := g
      exact ⟨q1, q2, q3, q4, q5, bl_mono q6 h0⟩
    · rw [if_neg c2] at c
      cases D with
      | none => exact absurd (congrArg Prod.fst c) (by show ¬ false = true; decide)
      | some d =>
        have c : (if s.2.1 = 45 then gBind (d.1 (gNx f n s)) (fun u => (true, gWr 20106 u)) else if s.2.1 = 40 then gBind (d.2.2 (gNx f n s)) (fun u => if u.2.1 = 41 then (true, gNx f n u) else (false, u)) else (false, s)) = (true, u) := c
        by_cases c3 : s.2.1 = 45
        · rw [if_pos c3] at c
          obtain ⟨v, e1, e2⟩ := gBind_inv c
          obtain ⟨b1, b2⟩ := gI_step (f := f) a b (by rw [c3]; decide)
          have g := gQ_un hn (hD.1 _ _ _ b1 b2 e1) (c := 20106) (by unfold lgX; decide) (by decide +kernel) (congrArg Prod.snd e2)
          obtain ⟨q1, q2, q3, q4, q5, q6⟩ := g
          exact ⟨q1, q2, q3, q4, q5, bl_mono q6 h1⟩
        · rw [if_neg c3] at c
          by_cases c4 : s.2.1 = 40
          · rw [if_pos c4] at c
            obtain ⟨v, e1, e2⟩ := gBind_inv c
            obtain ⟨b1, b2⟩ := gI_step (f := f) a b (by rw [c4]; decide)
            by_cases c5 : v.2.1 = 41
            · have e2 : (if v.2.1 = 41 then (true, gNx f n v) else (false, v)) = (true, u) := e2
              rw [if_pos c5] at e2
              have g := gQ_nx (f := f) (gQ_k (hD.2.2 _ _ _ b1 b2 e1))
              have e3 : gNx f n v = u := congrArg Prod.snd e2
              rw [e3] at g
              obtain ⟨q1, q2, q3, q4, q5, q6⟩ := g
              exact ⟨q1, q2, q3, q4, q5, bl_mono q6 h3⟩
            · have e2 : (if v.2.1 = 41 then (true, gNx f n v) else (false, v)) = (true, u) := e2
              rw [if_neg c5] at e2
              exact absurd (congrArg Prod.fst e2) (by show ¬ false = true; decide)
          · rw [if_neg c4] at c
            exact absurd (congrArg Prod.fst c) (by show ¬ false = true; decide)
theorem gNot_gd {f : Nat → Int32} {n H Hs H1 H2 H3 : Nat} {D : gD} (hn : n ≤ 160) (hD : gDd n H1 H2 H3 D) (hS : gGd n Hs (gSumB f n D)) (h0 : Hs + 1 ≤ H) (h2 : H2 ≤ H) : gGd n H (gNotB f n D) := fun s u k a b c => by
  unfold gNotB at c
  by_cases c1 : s.2.1 = 105
  · rw [if_pos c1] at c
    cases D with
    | none => exact absurd (congrArg Prod.fst c) (by show ¬ false = true; decide)
    | some d =>
      have c : gBind (d.2.1 (gNx f n s)) (fun u => (true, gWr 20105 u)) = (true, u) := c
      obtain ⟨v, e1, e2⟩ := gBind_inv c
      obtain ⟨b1, b2⟩ := gI_step (f := f) a b (by rw [c1]; decide)
      have g := gQ_un hn (hD.2.1 _ _ _ b1 b2 e1) (c := 20105) (by unfold lgX; decide) (by decide +kernel) (congrArg Prod.snd e2)
      obtain ⟨q1, q2, q3, q4, q5, q6⟩ := g
      exact ⟨q1, q2, q3, q4, q5, bl_mono q6 h2⟩
  · rw [if_neg c1] at c
    obtain ⟨v, e1, e2⟩ := gBind_inv c
    have gv := hS s v k a b e1
    by_cases c2 : v.2.1 = 60 ∨ v.2.1 = 61
    · have e2 : (if v.2.1 = 60 ∨ v.2.1 = 61 then gBind (gSumB f n D (gNx f n v)) (fun x => (true, gWr (20000 + v.2.1) x)) else (true, v)) = (true, u) := e2
      rw [if_pos c2] at e2
      -- a loop of one turn
      have okq : okTk (fun t => decide (t = 60 ∨ t = 61)) := fun t h => by
        rcases of_decide_eq_true h with e | e
        · subst e; exact ⟨by unfold lgX; decide, by unfold isBin; decide, by decide⟩
        · subst e; exact ⟨by unfold lgX; decide, by unfold isBin; decide, by decide⟩
      obtain ⟨x, x1, x2⟩ := gBind_inv e2
      have hl : gLp f n (fun t => decide (t = 60 ∨ t = 61)) (gSumB f n D) 1 v = (true, u) := by
        rw [gLp_go (i := 0) (u := x) (v := u) (c := 20000 + v.2.1) (decide_eq_true c2) x1 rfl (congrArg Prod.snd x2)]
        rfl
      have g := gLp_gd (HH := Hs + 1) hn hS okq (Nat.le_refl _) s 1 v u (by
        obtain ⟨q1, q2, q3, q4, q5, q6⟩ := gv
        exact ⟨q1, q2, q3, q4, q5, bl_mono q6 (Nat.le_succ _)⟩) hl
      obtain ⟨q1, q2, q3, q4, q5, q6⟩ := g
      exact ⟨q1, q2, q3, q4, q5, bl_mono q6 h0⟩
    · have e2 : (if v.2.1 = 60 ∨ v.2.1 = 61 then gBind (gSumB f n D (gNx f n v)) (fun x => (true, gWr (20000 + v.2.1) x)) else (true, v)) = (true, u) := e2
      rw [if_neg c2] at e2
      have e3 : v = u := congrArg Prod.snd e2
      subst e3
      obtain ⟨q1, q2, q3, q4, q5, q6⟩ := gv
      exact ⟨q1, q2, q3, q4, q5, bl_mono q6 (by omega)⟩
theorem gLv_gd {f : Nat → Int32} {n : Nat} (hn : n ≤ 160) : ∀ d : Nat, gGd n (5 * d + 1) (gOneB f n (gLv f n d)) ∧ gGd n (5 * d + 4) (gNotB f n (gLv f n d)) ∧ gGd n (5 * d + 6) (gOrB f n (gLv f n d)) := by
  have step : ∀ (D : gD) (H1 H2 H3 B : Nat), gDd n H1 H2 H3 D → H1 ≤ B + 1 → H3 ≤ B + 1 → H2 ≤ B + 4 → gGd n (B + 1) (gOneB f n D) ∧ gGd n (B + 4) (gNotB f n D) ∧ gGd n (B + 6) (gOrB f n D) := by
    intro D H1 H2 H3 B hD h1 h3 h2
    have a1 := gOne_gd (f := f) (H := B + 1) hn hD (by omega) h1 h3
    have a2 : gGd n (B + 1 + 1) (gTermB f n D) := gCh_gd (f := f) hn a1 ok42
    have a3 : gGd n (B + 1 + 1 + 1) (gSumB f n D) := gCh_gd (f := f) hn a2 ok43
    have a4 := gNot_gd (f := f) (H := B + 4) hn hD a3 (by omega) h2
    have a5 : gGd n (B + 4 + 1) (gAndB f n D) := gCh_gd (f := f) hn a4 ok104
    have a6 : gGd n (B + 4 + 1 + 1) (gOrB f n D) := gCh_gd (f := f) hn a5 ok103
    exact ⟨a1, a4, a6⟩
  intro d
  induction d with
  | zero => exact step none 0 0 0 0 trivial (by omega) (by omega) (by omega)
  | succ d ih => exact step (gLv f n (d + 1)) (5 * d + 1) (5 * d + 4) (5 * d + 6) (5 * (d + 1)) ih (by omega) (by omega) (by omega)
theorem gPt_gd {f : Nat → Int32} {n pt : Nat} {s : gT} {e : Nat → Nat} {y : gTE} (hn : n ≤ 160) (hs : gI n s) (hk : s.2.2.2.2.1 ≤ s.2.2.1) (h : gPt f n pt (s, e) = (true, y)) : gQ n 0 31 s y.1 s.2.2.2.2.1 ∧ y.2 = updN e pt y.1.2.2.2.2.1 := by
  unfold gPt at h
  by_cases c : s.2.1 = nI (100 + pt)
  · have h : (if s.2.1 = nI (100 + pt) then gPe f n pt e (gOrB f n (gLv f n 5) (gNx f n s)) else (false, (s, e))) = (true, y) := h
    rw [if_pos c] at h
    unfold gPe at h
    by_cases c2 : (gOrB f n (gLv f n 5) (gNx f n s)).1 = true ∧ (gOrB f n (gLv f n 5) (gNx f n s)).2.2.1 = 59
    · rw [if_pos c2] at h
      have h2 := congrArg Prod.snd h
      have h2 : (gNx f n (gOrB f n (gLv f n 5) (gNx f n s)).2, updN e pt (gOrB f n (gLv f n 5) (gNx f n s)).2.2.2.2.2.1) = y := h2
      subst h2
      obtain ⟨a1, a2⟩ := gNx_I (f := f) (s := s) hs.2.1
      have b : (gNx f n s).2.2.2.2.1 + 0 ≤ (gNx f n s).2.2.1 := by
        have := hs.1
        show s.2.2.2.2.1 + 0 ≤ (gNx f n s).2.2.1
        omega
      have g := (gLv_gd (f := f) hn 5).2.2 _ (gOrB f n (gLv f n 5) (gNx f n s)).2 0 a1 b (Prod.ext c2.1 rfl)
      exact ⟨gQ_nx (f := f) g, rfl⟩
    · rw [if_neg c2] at h
      exact absurd (congrArg Prod.fst h) (by show ¬ false = true; decide)
  · have h : (if s.2.1 = nI (100 + pt) then gPe f n pt e (gOrB f n (gLv f n 5) (gNx f n s)) else (false, (s, e))) = (true, y) := h
    rw [if_neg c] at h
    exact absurd (congrArg Prod.fst h) (by show ¬ false = true; decide)
/-- a text that the class has read stands well -/
theorem gParts_wx {f : Nat → Int32} {n : Nat} {s : gT} {e : Nat → Nat} {y : gTE} (hn : n ≤ 160) (ha : s.1 ≤ n) (hw : s.2.2.2.2.1 = 0) (h : gParts f n (s, e) = (true, y)) : mWx y.1.2.2.2.2.2 y.2 := by
  unfold gParts at h
  obtain ⟨x1, e1, h⟩ := gBind_inv h
  obtain ⟨x2, e2, h⟩ := gBind_inv h
  obtain ⟨x3, e3, h⟩ := gBind_inv h
  have h : (decide (x3.1.2.1 = 0), x3) = (true, y) := h
  have h3 : x3 = y := congrArg Prod.snd h
  subst h3
  obtain ⟨a1, a2⟩ := gNx_I (f := f) (s := s) ha
  have w0 : (gNx f n s).2.2.2.2.1 = 0 := hw
  obtain ⟨⟨p1, p2, p3, p4, p5, p6⟩, p7⟩ := gPt_gd hn a1 (by rw [w0]; exact Nat.zero_le _) e1
  obtain ⟨⟨q1, q2, q3, q4, q5, q6⟩, q7⟩ := gPt_gd (s := x1.1) (e := x1.2) hn p1 p3 e2
  obtain ⟨⟨r1, r2, r3, r4, r5, r6⟩, r7⟩ := gPt_gd (s := x2.1) (e := x2.2) hn q1 q3 e3
  rw [w0] at p4 p5 p6
  have k1 := p6.1
  have k2 := q6.1
  have k3 := r6.1
  have k4 := r1.1
  have k5 := r1.2.1
  have z0 : x3.2 0 = x1.1.2.2.2.2.1 := by
    rw [r7, q7, p7]
    show (if 0 = 2 then _ else if 0 = 1 then _ else if 0 = 0 then _ else _) = _
    rw [if_neg (by decide +kernel), if_neg (by decide +kernel), if_pos rfl]
  have z1 : x3.2 1 = x2.1.2.2.2.2.1 := by
    rw [r7, q7]
    show (if 1 = 2 then _ else if 1 = 1 then _ else _) = _
    rw [if_neg (by decide +kernel), if_pos rfl]
  have z2 : x3.2 2 = x3.1.2.2.2.2.1 := by
    rw [r7]
    show (if 2 = 2 then _ else _) = _
    rw [if_pos rfl]
  have lg : ∀ i, i < x3.1.2.2.2.2.1 → lgX (x3.1.2.2.2.2.2 i) := fun i hi => by
    by_cases c3 : x2.1.2.2.2.2.1 ≤ i
    · exact r5 i c3 hi
    · rw [r4 i (by omega)]
      by_cases c2 : x1.1.2.2.2.2.1 ≤ i
      · exact q5 i c2 (by omega)
      · rw [q4 i (by omega)]
        exact p5 i (Nat.zero_le _) (by omega)
  have b1 : bl (fun i => trX (x3.1.2.2.2.2.2 i)) 0 x1.1.2.2.2.2.1 31 := bl_eq p6 (fun i _ i2 => by
    show trX (x1.1.2.2.2.2.2 i) = trX (x3.1.2.2.2.2.2 i)
    rw [r4 i (by omega), q4 i i2])
  have b2 : bl (fun i => trX (x3.1.2.2.2.2.2 i)) x1.1.2.2.2.2.1 x2.1.2.2.2.2.1 31 := bl_eq q6 (fun i _ i2 => by
    show trX (x2.1.2.2.2.2.2 i) = trX (x3.1.2.2.2.2.2 i)
    rw [r4 i i2])
  refine ⟨fun pt hp => ?_, fun pt hp k hk => lg k ?_⟩
  · have c : pt = 0 ∨ pt = 1 ∨ pt = 2 := by omega
    rcases c with c | c | c
    · subst c
      have m : mFrom x3.2 0 = 0 := rfl
      rw [m, z0]
      exact ⟨Nat.zero_le _, by omega, sgw_ok (b1.2 0 (by omega))⟩
    · subst c
      have m : mFrom x3.2 1 = x3.2 0 := rfl
      rw [m, z0, z1]
      exact ⟨by omega, by omega, sgw_ok (b2.2 0 (by omega))⟩
    · subst c
      have m : mFrom x3.2 2 = x3.2 1 := rfl
      rw [m, z1, z2]
      exact ⟨by omega, by omega, sgw_ok (r6.2 0 (by omega))⟩
  · have c : pt = 0 ∨ pt = 1 ∨ pt = 2 := by omega
    rcases c with c | c | c
    · subst c; rw [z0] at hk; omega
    · subst c; rw [z1] at hk; omega
    · subst c; rw [z2] at hk; exact hk
