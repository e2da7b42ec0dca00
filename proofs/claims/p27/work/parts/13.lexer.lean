/-! the class's reader as a function: f the bytes, n how many -/
noncomputable def mBlank (c : Int32) : Bool := decide (c = 32 ∨ c = 10)
noncomputable def mLet (c : Int32) : Bool := decide (97 ≤ c ∧ c ≤ 122)
noncomputable def mDig (c : Int32) : Bool := decide (48 ≤ c ∧ c ≤ 57)
noncomputable def mRun (q : Int32 → Bool) (f : Nat → Int32) (n : Nat) : Nat → Nat → Nat
  | 0, a => a
  | k + 1, a => if decide (a < n) && q (f a) then mRun q f n k (a + 1) else a
theorem mRun_le (q : Int32 → Bool) (f : Nat → Int32) (n : Nat) : ∀ k a, a ≤ n → a ≤ mRun q f n k a ∧ mRun q f n k a ≤ n
  | 0, a, h => ⟨Nat.le_refl a, h⟩
  | k + 1, a, h => by
    rw [mRun]
    by_cases c : (decide (a < n) && q (f a)) = true
    · rw [if_pos c]
      have h1 : a < n := by simp at c; exact c.1
      have := mRun_le q f n k (a + 1) h1
      exact ⟨by omega, this.2⟩
    · rw [if_neg c]; exact ⟨Nat.le_refl a, h⟩
theorem mRun_stop {q : Int32 → Bool} {f : Nat → Int32} {n a : Nat} (k : Nat) (h : ¬ a < n ∨ q (f a) = false) : mRun q f n k a = a := by
  cases k with
  | zero => rfl
  | succ k =>
    rw [mRun, if_neg]
    rcases h with h | h <;> simp [h]
theorem mRun_go {q : Int32 → Bool} {f : Nat → Int32} {n a : Nat} (h : a < n) (h2 : q (f a) = true) : mRun q f n (n - a) a = mRun q f n (n - (a + 1)) (a + 1) := by
  have e : n - a = (n - (a + 1)) + 1 := by omega
  rw [e, mRun, if_pos (by simp [h, h2])]
noncomputable def mSpF (f : Nat → Int32) (p k : Nat) : Nat → Nat → Bool
  | 0, _ => true
  | m + 1, i => if f (p + i) = gCh k i then mSpF f p k m (i + 1) else false
noncomputable def mSp (f : Nat → Int32) (a p k : Nat) : Bool := if a - p = gLen.getD k 0 then mSpF f p k (gLen.getD k 0) 0 else false
noncomputable def mWords (f : Nat → Int32) (a p : Nat) : Nat → Nat → Int32 × Int32 → Int32 × Int32
  | 0, _, x => x
  | m + 1, k, x => mWords f a p m (k + 1) (if mSp f a p k then ((if k < 6 then nI (100 + k) else 3), nI k - 6) else x)
noncomputable def mNumR (f : Nat → Int32) (n : Nat) : Nat → Nat → Int32 → Nat × Int32
  | 0, a, m => (a, m)
  | k + 1, a, m => if decide (a < n) && mDig (f a) then mNumR f n k (a + 1) (10 * m + (f a - 48)) else (a, m)
theorem mNumR_le (f : Nat → Int32) (n : Nat) : ∀ k a m, a ≤ n → a ≤ (mNumR f n k a m).1 ∧ (mNumR f n k a m).1 ≤ n
  | 0, a, m, h => ⟨Nat.le_refl a, h⟩
  | k + 1, a, m, h => by
    rw [mNumR]
    by_cases c : (decide (a < n) && mDig (f a)) = true
    · rw [if_pos c]
      have h1 : a < n := by simp at c; exact c.1
      have := mNumR_le f n k (a + 1) (10 * m + (f a - 48)) h1
      exact ⟨by omega, this.2⟩
    · rw [if_neg c]; exact ⟨Nat.le_refl a, h⟩
theorem mNumR_stop {f : Nat → Int32} {n a : Nat} {m : Int32} (k : Nat) (h : ¬ a < n ∨ mDig (f a) = false) : mNumR f n k a m = (a, m) := by
  cases k with
  | zero => rfl
  | succ k =>
    rw [mNumR, if_neg]
    rcases h with h | h <;> simp [h]
theorem mNumR_go {f : Nat → Int32} {n a : Nat} {m : Int32} (h : a < n) (h2 : mDig (f a) = true) : mNumR f n (n - a) a m = mNumR f n (n - (a + 1)) (a + 1) (10 * m + (f a - 48)) := by
  have e : n - a = (n - (a + 1)) + 1 := by omega
  rw [e, mNumR, if_pos (by simp [h, h2])]
/-- indexOf a char -/
noncomputable def gIxF (k : Nat) (b : Int32) : Nat → Nat → Int32
  | 0, _ => -1
  | m + 1, j => if gCh k j = b then nI j else gIxF k b m (j + 1)
noncomputable def gIx (k : Nat) (c : Int32) : Int32 := if 0 ≤ c ∧ c ≤ 255 then gIxF k c.toInt8.toInt32 (gLen.getD k 0) 0 else -1
/-- the lexer's state: at, token, place, meaning -/
abbrev mL : Type := Nat × Int32 × Nat × Int32
noncomputable def mChar (c : Int32) : Int32 := (c.toUInt32 % 65536).toInt32
noncomputable def mNextAt (f : Nat → Int32) (n a : Nat) (mn : Int32) : mL :=
  if n ≤ a then (a, 0, a, mn)
  else if mLet (f a) then
    (mRun mLet f n (n - a) a, (mWords f (mRun mLet f n (n - a) a) a 12 0 (1, mn)).1, a, (mWords f (mRun mLet f n (n - a) a) a 12 0 (1, mn)).2)
  else if mDig (f a) then
    ((mNumR f n (n - a) a 0).1, (if 4 < (mNumR f n (n - a) a 0).1 - a then 1 else 2), a, (mNumR f n (n - a) a 0).2)
  else (a + 1, (if 0 ≤ gIx 12 (mChar (f a)) then f a else 1), a, mn)
noncomputable def mNext (f : Nat → Int32) (n a : Nat) (mn : Int32) : mL := mNextAt f n (mRun mBlank f n (n - a) a) mn
theorem mNextAt_le (f : Nat → Int32) (n a : Nat) (mn : Int32) (h : a ≤ n) : (mNextAt f n a mn).1 ≤ n ∧ (mNextAt f n a mn).2.2.1 ≤ n := by
  unfold mNextAt
  by_cases c : n ≤ a
  · rw [if_pos c]; exact ⟨h, h⟩
  · rw [if_neg c]
    by_cases c1 : mLet (f a) = true
    · rw [if_pos c1]; exact ⟨(mRun_le _ _ _ _ _ h).2, h⟩
    · rw [if_neg c1]
      by_cases c2 : mDig (f a) = true
      · rw [if_pos c2]; exact ⟨(mNumR_le _ _ _ _ _ h).2, h⟩
      · rw [if_neg c2]; exact ⟨by show a + 1 ≤ n; omega, h⟩
theorem mNext_le (f : Nat → Int32) (n a : Nat) (mn : Int32) (h : a ≤ n) : (mNext f n a mn).1 ≤ n ∧ (mNext f n a mn).2.2.1 ≤ n := mNextAt_le f n _ mn (mRun_le _ _ _ _ _ h).2
