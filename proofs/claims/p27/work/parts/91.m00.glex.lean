/-! both sides read the same tokens -/
def tkM (tX mX tM vM : Int32) : Prop :=
  (tX = 0 ∧ tM = 0) ∨ (tX = 1 ∧ tM = -1) ∨ (tX = 2 ∧ tM = 1 ∧ vM = mX) ∨ (tX = 3 ∧ tM = 2 ∧ vM = mX) ∨ (tX = 100 ∧ tM = 3 ∧ vM = 0) ∨ (tX = 101 ∧ tM = 3 ∧ vM = 1) ∨ (tX = 102 ∧ tM = 3 ∧ vM = 2) ∨ (tX = 103 ∧ tM = 4) ∨ (tX = 104 ∧ tM = 5) ∨ (tX = 105 ∧ tM = 6) ∨ (tX = tM ∧ (tM = 40 ∨ tM = 41 ∨ tM = 59 ∨ tM = 43 ∨ tM = 45 ∨ tM = 42 ∨ tM = 60 ∨ tM = 61))
section LEX
variable {f ftp : Nat → Int32} {n : Nat}
theorem lx_blank (hf : ∀ i, i < n → f i = ftp i) : ∀ (k a : Nat), a + k = n → mRun mBlank f n k a = p_X6_next_0 ftp k a
  | 0, a, h => rfl
  | k + 1, a, h => by
    rw [mRun, p_X6_next_0]
    have e := hf a (by omega)
    have ih := lx_blank hf k (a + 1) (by omega)
    by_cases c1 : ftp a = 32
    · rw [if_pos c1, if_pos (by simp [show a < n by omega, mBlank, e, c1]), ih]
    · rw [if_neg c1]
      by_cases c2 : ftp a = 10
      · rw [if_pos c2, if_pos (by simp [show a < n by omega, mBlank, e, c2]), ih]
      · rw [if_neg c2, if_neg (by simp [mBlank, e, c1, c2])]
theorem lx_let (hf : ∀ i, i < n → f i = ftp i) : ∀ (k a : Nat), a + k = n → mRun mLet f n k a = p_X6_next_103 ftp k a
  | 0, a, h => rfl
  | k + 1, a, h => by
    rw [mRun, p_X6_next_103]
    have e := hf a (by omega)
    have ih := lx_let hf k (a + 1) (by omega)
    by_cases c1 : 97 ≤ ftp a ∧ ftp a ≤ 122
    · rw [if_pos c1, if_pos (by simp only [Bool.and_eq_true, decide_eq_true_eq]; exact ⟨by omega, by unfold mLet; rw [e]; exact decide_eq_true c1⟩), ih]
    · rw [if_neg c1, if_neg (by intro z; simp only [Bool.and_eq_true, decide_eq_true_eq] at z; have z2 := z.2; unfold mLet at z2; rw [e] at z2; exact c1 (of_decide_eq_true z2))]
theorem lx_num (hf : ∀ i, i < n → f i = ftp i) (hn : n ≤ 160) : ∀ (k a c : Nat) (m z : Int32), a + k = n → c + k ≤ 160 → (c ≤ 4 → m = z) → (mNumR f n k a m).1 = (p_X6_next_230 ftp k a c z).1 ∧ (p_X6_next_230 ftp k a c z).2.1 + a = c + (p_X6_next_230 ftp k a c z).1 ∧ ((p_X6_next_230 ftp k a c z).2.1 ≤ 4 → (mNumR f n k a m).2 = (p_X6_next_230 ftp k a c z).2.2)
  | 0, a, c, m, z, h, hc, hm => ⟨rfl, rfl, hm⟩
  | k + 1, a, c, m, z, h, hc, hm => by
    rw [mNumR, p_X6_next_230]
    have e := hf a (by omega)
    by_cases c1 : 48 ≤ ftp a ∧ ftp a ≤ 57
    · rw [if_pos c1, if_pos (by simp only [Bool.and_eq_true, decide_eq_true_eq]; exact ⟨by omega, by unfold mDig; rw [e]; exact decide_eq_true c1⟩)]
      by_cases c2 : (4 : Int32) ≤ nI c
      · rw [if_pos c2]
        have h4 := nI_le1 (a := 4) (b := c) (by omega) (by omega) c2
        obtain ⟨i1, i2, i3⟩ := lx_num hf hn k (a + 1) (c + 1) (10 * m + (f a - 48)) 0 (by omega) (by omega) (fun w => absurd w (by omega))
        exact ⟨i1, by omega, i3⟩
      · rw [if_neg c2]
        have h4 := nI_le0 (a := 4) (b := c) (by omega) (by omega) c2
        obtain ⟨i1, i2, i3⟩ := lx_num hf hn k (a + 1) (c + 1) (10 * m + (f a - 48)) (10 * z + ftp a - 48) (by omega) (by omega) (fun w => by
          rw [hm (by omega), e, Int32.sub_eq_add_neg, Int32.sub_eq_add_neg, Int32.add_assoc])
        exact ⟨i1, by omega, i3⟩
    · rw [if_neg c1, if_neg (by intro z; simp only [Bool.and_eq_true, decide_eq_true_eq] at z; have z2 := z.2; unfold mDig at z2; rw [e] at z2; exact c1 (of_decide_eq_true z2))]
      exact ⟨rfl, rfl, hm⟩
end LEX
/-! words -/
theorem mSpF_iff {f : Nat → Int32} {p k : Nat} : ∀ (m i : Nat), mSpF f p k m i = true ↔ ∀ j, i ≤ j → j < i + m → f (p + j) = gCh k j
  | 0, i => ⟨fun _ j h1 h2 => absurd h2 (by omega), fun _ => rfl⟩
  | m + 1, i => by
    rw [mSpF]
    by_cases c : f (p + i) = gCh k i
    · rw [if_pos c, mSpF_iff m (i + 1)]
      constructor
      · intro h j h1 h2
        by_cases e : j = i
        · subst e; exact c
        · exact h j (by omega) (by omega)
      · intro h j h1 h2
        exact h j (by omega) (by omega)
    · rw [if_neg c]
      exact ⟨fun z => absurd z (by decide), fun h => absurd (h i (Nat.le_refl _) (by omega)) c⟩
theorem mSp_iff {f : Nat → Int32} {a p k : Nat} : mSp f a p k = true ↔ a - p = gLen.getD k 0 ∧ ∀ j, j < gLen.getD k 0 → f (p + j) = gCh k j := by
  unfold mSp
  by_cases c : a - p = gLen.getD k 0
  · rw [if_pos c, mSpF_iff]
    constructor
    · intro h; exact ⟨c, fun j hj => h j (Nat.zero_le _) (by omega)⟩
    · intro h j _ h2; exact h.2 j (by omega)
  · rw [if_neg c]
    exact ⟨fun z => absurd z (by decide), fun h => absurd h.1 c⟩
/-- the class's number of the reference's word -/
noncomputable def sgm (k : Nat) : Nat := if k < 3 then k else if k < 9 then k + 3 else k - 6
theorem wd_len : ∀ k, k < 12 → gLen.getD (sgm k) 0 ≤ 8 := by decide +kernel
theorem wd_tab : ∀ k, k < 12 → ∀ c, c < 8 → gPf tW 96 (8 * k + c) = if c < gLen.getD (sgm k) 0 then gCh (sgm k) c else 32 := by decide +kernel
theorem wd_apart : ∀ j, j < 12 → ∀ k, k < 12 → j ≠ k → gLen.getD j 0 ≠ gLen.getD k 0 ∨ ∃ c, c < gLen.getD j 0 ∧ gCh j c ≠ gCh k c := by decide +kernel
theorem mSp_one {f : Nat → Int32} {a p j k : Nat} (hj : j < 12) (hk : k < 12) (h1 : mSp f a p j = true) (h2 : mSp f a p k = true) : j = k := by
  by_cases e : j = k
  · exact e
  · exfalso
    obtain ⟨l1, c1⟩ := mSp_iff.mp h1
    obtain ⟨l2, c2⟩ := mSp_iff.mp h2
    rcases wd_apart j hj k hk e with n | ⟨c, hc, n⟩
    · exact n (l1.symm.trans l2)
    · exact n ((c1 c hc).symm.trans (c2 c (by omega)))
/-- the reference's comparison of one word -/
theorem wf26 {ftp fwo : Nat → Int32} {fr tw k : Nat} (htw : tw ≤ 160) (hfr : fr ≤ tw) : ∀ (q c : Nat), c + q = 8 → ((p_X6_wordFrom_26q1 ftp fwo fr tw k q c 1).2 = 0 ∨ (p_X6_wordFrom_26q1 ftp fwo fr tw k q c 1).2 = 1) ∧ (¬ (p_X6_wordFrom_26q1 ftp fwo fr tw k q c 1).2 = 0 ↔ ∀ j, c ≤ j → j < 8 → fwo (8 * k + j) = if fr + j < tw then ftp (fr + j) else 32)
  | 0, c, h => ⟨Or.inr rfl, ⟨fun _ j h1 h2 => absurd h2 (by omega), fun _ => by show ¬ (1 : Int32) = 0; decide⟩⟩
  | q + 1, c, h => by
    have z0 : ∀ (q c : Nat), (p_X6_wordFrom_26q1 ftp fwo fr tw k q c 0).2 = 0 := by
      intro q c
      cases q with
      | zero => rfl
      | succ q => rw [p_X6_wordFrom_26q1, if_pos rfl]
    obtain ⟨i1, i2⟩ := wf26 (ftp := ftp) (fwo := fwo) (k := k) htw hfr q (c + 1) (by omega)
    rw [p_X6_wordFrom_26q1, if_neg (show ¬ (1 : Int32) = 0 by decide)]
    have key : ∀ (b : Prop) [Decidable b], (b ↔ fwo (8 * k + c) = if fr + c < tw then ftp (fr + c) else 32) → ((if b then p_X6_wordFrom_26q1 ftp fwo fr tw k q (c + 1) 1 else p_X6_wordFrom_26q1 ftp fwo fr tw k q (c + 1) 0).2 = 0 ∨ (if b then p_X6_wordFrom_26q1 ftp fwo fr tw k q (c + 1) 1 else p_X6_wordFrom_26q1 ftp fwo fr tw k q (c + 1) 0).2 = 1) ∧ (¬ (if b then p_X6_wordFrom_26q1 ftp fwo fr tw k q (c + 1) 1 else p_X6_wordFrom_26q1 ftp fwo fr tw k q (c + 1) 0).2 = 0 ↔ ∀ j, c ≤ j → j < 8 → fwo (8 * k + j) = if fr + j < tw then ftp (fr + j) else 32) := by
      intro b _ hb
      by_cases c1 : b
      · rw [if_pos c1]
        refine ⟨i1, i2.trans ⟨fun h j h1 h2 => ?_, fun h j h1 h2 => h j (by omega) h2⟩⟩
        by_cases e : j = c
        · subst e; exact hb.mp c1
        · exact h j (by omega) h2
      · rw [if_neg c1, z0]
        exact ⟨Or.inl rfl, ⟨fun z => absurd rfl z, fun h => absurd (hb.mpr (h c (Nat.le_refl _) (by omega))) c1⟩⟩
    by_cases c2 : (nI tw) ≤ (nI (fr + c))
    · rw [if_pos c2]
      have h3 := nI_le1 (a := tw) (b := fr + c) (by omega) (by omega) c2
      refine key _ ?_
      rw [if_neg (by omega)]
    · rw [if_neg c2]
      have h3 := nI_le0 (a := tw) (b := fr + c) (by omega) (by omega) c2
      refine key _ ?_
      rw [if_pos (by omega)]
/-- a word of letters is the reference's so, as it is the class's so -/
theorem wd_same {f ftp : Nat → Int32} {n p a k : Nat} (hf : ∀ i, i < n → f i = ftp i) (hn : n ≤ 160) (hp : p ≤ a) (ha : a ≤ n) (hl : ∀ i, p ≤ i → i < a → ¬ ftp i = 32) (hk : k < 12) :
    (if 8 < nI (a - p) then ¬ (g_X6_wordFrom_26 ftp (gPf tW 96) p a k).2 = 0 else ¬ (g_X6_wordFrom_26q1 ftp (gPf tW 96) p a k).2 = 0) ↔ mSp f a p (sgm k) = true := by
  have hl8 := wd_len k hk
  rw [mSp_iff]
  by_cases c : (8 : Int32) < nI (a - p)
  · rw [if_pos c]
    have h8 := nI_lt1 (a := 8) (b := a - p) (by omega) (by omega) c
    have z : (g_X6_wordFrom_26 ftp (gPf tW 96) p a k).2 = 0 := by
      show (p_X6_wordFrom_26 ftp (gPf tW 96) p a k (7 + 1) 0 0).2 = 0
      rw [p_X6_wordFrom_26, if_pos rfl]
    exact ⟨fun w => absurd z w, fun w => absurd w.1 (by omega)⟩
  · rw [if_neg c]
    have h8 := nI_lt0 (a := 8) (b := a - p) (by omega) (by omega) c
    have hw := (wf26 (ftp := ftp) (fwo := gPf tW 96) (fr := p) (tw := a) (k := k) (by omega) hp 8 0 (by omega)).2
    have hw : ¬ (g_X6_wordFrom_26q1 ftp (gPf tW 96) p a k).2 = 0 ↔ ∀ j, 0 ≤ j → j < 8 → gPf tW 96 (8 * k + j) = if p + j < a then ftp (p + j) else 32 := hw
    rw [hw]
    constructor
    · intro h
      have e : a - p = gLen.getD (sgm k) 0 := by
        rcases Nat.lt_trichotomy (a - p) (gLen.getD (sgm k) 0) with z | z | z
        · exfalso
          have h1 := h (a - p) (Nat.zero_le _) (by omega)
          rw [wd_tab k hk _ (by omega), if_pos z, if_neg (by omega)] at h1
          have h2 : ∀ k, k < 12 → ∀ c, c < gLen.getD (sgm k) 0 → ¬ gCh (sgm k) c = 32 := by decide +kernel
          exact h2 k hk _ z h1
        · exact z
        · exfalso
          have h1 := h (gLen.getD (sgm k) 0) (Nat.zero_le _) (by omega)
          rw [wd_tab k hk _ (by omega), if_neg (by omega), if_pos (by omega)] at h1
          exact hl _ (by omega) (by omega) h1.symm
      refine ⟨e, fun j hj => ?_⟩
      have h1 := h j (Nat.zero_le _) (by omega)
      rw [wd_tab k hk _ (by omega), if_pos hj, if_pos (by omega)] at h1
      rw [hf _ (by omega)]
      exact h1.symm
    · intro h j _ hj
      rw [wd_tab k hk _ hj]
      by_cases c2 : j < gLen.getD (sgm k) 0
      · rw [if_pos c2, if_pos (by omega), ← h.2 j c2, hf _ (by omega)]
      · rw [if_neg c2, if_neg (by omega)]
/-- the class's words, by whether each is it -/
noncomputable def mWb (b : Nat → Bool) : Nat → Nat → Int32 × Int32 → Int32 × Int32
  | 0, _, x => x
  | m + 1, k, x => mWb b m (k + 1) (if b k = true then ((if k < 6 then nI (100 + k) else 3), nI k - 6) else x)
theorem mWb_eq {f : Nat → Int32} {a p : Nat} {b : Nat → Bool} (hb : ∀ k, k < 12 → mSp f a p k = b k) : ∀ (m k : Nat) (x : Int32 × Int32), k + m ≤ 12 → mWords f a p m k x = mWb b m k x
  | 0, k, x, h => rfl
  | m + 1, k, x, h => by
    rw [mWords, mWb, hb k (by omega)]
    exact mWb_eq hb m (k + 1) _ (by omega)
theorem wf2_none {ftp fwo : Nat → Int32} {fr tw : Nat} (h : ∀ k, k < 12 → ¬ (if 8 < nI (tw - fr) then ¬ (g_X6_wordFrom_26 ftp fwo fr tw k).2 = 0 else ¬ (g_X6_wordFrom_26q1 ftp fwo fr tw k).2 = 0)) : ∀ (q k : Nat), k + q = 12 → p_X6_wordFrom_2 ftp fwo fr tw q k = 12
  | 0, k, e => by rw [p_X6_wordFrom_2]; omega
  | q + 1, k, e => by
    rw [p_X6_wordFrom_2]
    have h1 := h k (by omega)
    have ih := wf2_none h q (k + 1) (by omega)
    by_cases c : (8 : Int32) < nI (tw - fr)
    · rw [if_pos c] at h1 ⊢
      rw [if_pos (Classical.not_not.mp h1)]; exact ih
    · rw [if_neg c] at h1 ⊢
      rw [if_pos (Classical.not_not.mp h1)]; exact ih
theorem wf2_one {ftp fwo : Nat → Int32} {fr tw k0 : Nat} (hk : k0 < 12) (h0 : if 8 < nI (tw - fr) then ¬ (g_X6_wordFrom_26 ftp fwo fr tw k0).2 = 0 else ¬ (g_X6_wordFrom_26q1 ftp fwo fr tw k0).2 = 0) (h : ∀ k, k < k0 → ¬ (if 8 < nI (tw - fr) then ¬ (g_X6_wordFrom_26 ftp fwo fr tw k).2 = 0 else ¬ (g_X6_wordFrom_26q1 ftp fwo fr tw k).2 = 0)) : ∀ (q k : Nat), k + q = 12 → k ≤ k0 → p_X6_wordFrom_2 ftp fwo fr tw q k = k0
  | 0, k, e, hle => by omega
  | q + 1, k, e, hle => by
    rw [p_X6_wordFrom_2]
    by_cases e0 : k = k0
    · subst e0
      by_cases c : (8 : Int32) < nI (tw - fr)
      · rw [if_pos c] at h0 ⊢; rw [if_neg h0]
      · rw [if_neg c] at h0 ⊢; rw [if_neg h0]
    · have h1 := h k (by omega)
      have ih := wf2_one hk h0 h q (k + 1) (by omega) (by omega)
      by_cases c : (8 : Int32) < nI (tw - fr)
      · rw [if_pos c] at h1 ⊢
        rw [if_pos (Classical.not_not.mp h1)]; exact ih
      · rw [if_neg c] at h1 ⊢
        rw [if_pos (Classical.not_not.mp h1)]; exact ih
/-- what the two make of a word -/
theorem wd_tok {f ftp : Nat → Int32} {n p a : Nat} {mn : Int32} (hf : ∀ i, i < n → f i = ftp i) (hn : n ≤ 160) (hp : p ≤ a) (ha : a ≤ n) (hl : ∀ i, p ≤ i → i < a → ¬ ftp i = 32) :
    tkM (mWords f a p 12 0 (1, mn)).1 (mWords f a p 12 0 (1, mn)).2 (tkW (m_X6_wordFrom ftp (gPf tW 96) p a)) (vlW (m_X6_wordFrom ftp (gPf tW 96) p a)) := by
  by_cases ex : ∃ k0, k0 < 12 ∧ mSp f a p (sgm k0) = true
  · obtain ⟨k0, hk, hm⟩ := ex
    have sg_lt : ∀ k, k < 12 → sgm k < 12 := by decide
    have hb : ∀ k, k < 12 → mSp f a p k = decide (k = sgm k0) := fun k hk2 => by
      by_cases e : k = sgm k0
      · rw [e, hm]; simp
      · rw [decide_eq_false e]
        cases hq : mSp f a p k with
        | false => rfl
        | true => exact absurd (mSp_one hk2 (sg_lt k0 hk) hq hm) e
    rw [mWb_eq hb 12 0 (1, mn) (by omega)]
    have inj : ∀ i, i < 12 → ∀ j, j < 12 → sgm i = sgm j → i = j := by decide +kernel
    have hw : p_X6_wordFrom_2 ftp (gPf tW 96) p a 12 0 = k0 := wf2_one hk ((wd_same hf hn hp ha hl hk).mpr hm) (fun k hk2 z => by
      have h1 := (wd_same hf hn hp ha hl (by omega)).mp z
      have := inj k (by omega) k0 hk (mSp_one (sg_lt k (by omega)) (sg_lt k0 hk) h1 hm)
      omega) 12 0 (by omega) (Nat.zero_le _)
    have hw2 : m_X6_wordFrom ftp (gPf tW 96) p a = nI k0 := by
      unfold m_X6_wordFrom
      have e : g_X6_wordFrom_2 ftp (gPf tW 96) p a = k0 := hw
      rw [e, if_neg (show ¬ (12 : Int32) ≤ nI k0 from fun z => absurd (nI_le1 (a := 12) (b := k0) (by omega) (by omega) z) (by omega))]
    rw [hw2]
    have all : ∀ k, k < 12 → (tkM (mWb (fun j => decide (j = sgm k)) 12 0 (1, mn)).1 (mWb (fun j => decide (j = sgm k)) 12 0 (1, mn)).2 (tkW (nI k)) (vlW (nI k))) := by
      intro k hk
      have c : k = 0 ∨ k = 1 ∨ k = 2 ∨ k = 3 ∨ k = 4 ∨ k = 5 ∨ k = 6 ∨ k = 7 ∨ k = 8 ∨ k = 9 ∨ k = 10 ∨ k = 11 := by omega
      rcases c with c | c | c | c | c | c | c | c | c | c | c | c
      · subst c; exact Or.inr (Or.inr (Or.inr (Or.inr (Or.inl ⟨by rfl, by decide, by decide⟩))))
      · subst c; exact Or.inr (Or.inr (Or.inr (Or.inr (Or.inr (Or.inl ⟨by rfl, by decide, by decide⟩)))))
      · subst c; exact Or.inr (Or.inr (Or.inr (Or.inr (Or.inr (Or.inr (Or.inl ⟨by rfl, by decide, by decide⟩))))))
      · subst c; exact Or.inr (Or.inr (Or.inr (Or.inl ⟨by rfl, by decide, by rfl⟩)))
      · subst c; exact Or.inr (Or.inr (Or.inr (Or.inl ⟨by rfl, by decide, by rfl⟩)))
      · subst c; exact Or.inr (Or.inr (Or.inr (Or.inl ⟨by rfl, by decide, by rfl⟩)))
      · subst c; exact Or.inr (Or.inr (Or.inr (Or.inl ⟨by rfl, by decide, by rfl⟩)))
      · subst c; exact Or.inr (Or.inr (Or.inr (Or.inl ⟨by rfl, by decide, by rfl⟩)))
      · subst c; exact Or.inr (Or.inr (Or.inr (Or.inl ⟨by rfl, by decide, by rfl⟩)))
      · subst c; exact Or.inr (Or.inr (Or.inr (Or.inr (Or.inr (Or.inr (Or.inr (Or.inl ⟨by rfl, by decide⟩)))))))
      · subst c; exact Or.inr (Or.inr (Or.inr (Or.inr (Or.inr (Or.inr (Or.inr (Or.inr (Or.inl ⟨by rfl, by decide⟩))))))))
      · subst c; exact Or.inr (Or.inr (Or.inr (Or.inr (Or.inr (Or.inr (Or.inr (Or.inr (Or.inr (Or.inl ⟨by rfl, by decide⟩)))))))))
    exact all k0 hk
  · have no : ∀ k, k < 12 → ¬ mSp f a p (sgm k) = true := fun k hk h => ex ⟨k, hk, h⟩
    have sur : ∀ j, j < 12 → ∃ k, k < 12 ∧ sgm k = j := by decide +kernel
    have hb : ∀ k, k < 12 → mSp f a p k = false := fun k hk => by
      obtain ⟨i, hi, e⟩ := sur k hk
      have := no i hi
      rw [e] at this
      cases hq : mSp f a p k with
      | false => rfl
      | true => exact absurd hq this
    rw [mWb_eq (b := fun _ => false) hb 12 0 (1, mn) (by omega)]
    have hw : p_X6_wordFrom_2 ftp (gPf tW 96) p a 12 0 = 12 := wf2_none (fun k hk z => no k hk ((wd_same hf hn hp ha hl hk).mp z)) 12 0 (by omega)
    have hw2 : m_X6_wordFrom ftp (gPf tW 96) p a = 12 := by
      unfold m_X6_wordFrom
      have e : g_X6_wordFrom_2 ftp (gPf tW 96) p a = 12 := hw
      rw [e, if_pos (show (12 : Int32) ≤ nI 12 from nI_le (a := 12) (Nat.le_refl _) (by omega))]
    rw [hw2]
    exact Or.inr (Or.inl ⟨by rfl, by decide⟩)
theorem lx_sign : ∀ k, k < 256 → (0 ≤ gIx 12 (mChar (nI k)) ↔ (nI k = 40 ∨ nI k = 41 ∨ nI k = 59 ∨ nI k = 43 ∨ nI k = 45 ∨ nI k = 42 ∨ nI k = 60 ∨ nI k = (61 : Int32))) := by decide +kernel
/-- THE SAME TOKEN -/
theorem lex_eq {f ftp : Nat → Int32} {n a : Nat} {mn : Int32} (hf : ∀ i, i < n → f i = ftp i) (hb : ∀ i, i < n → 0 ≤ ftp i ∧ ftp i ≤ 255) (hn : n ≤ 160) (ha : a ≤ n) :
    (mNext f n a mn).1 = m_X6_next_h019 n ftp a ∧ nI (mNext f n a mn).2.2.1 = m_X6_next_h020 n ftp a ∧ tkM (mNext f n a mn).2.1 (mNext f n a mn).2.2.2 (m_X6_next_h021 n ftp (gPf tW 96) a) (m_X6_next_h022 n ftp (gPf tW 96) a) := by
  have e0 : mRun mBlank f n (n - a) a = g_X6_next_0 n ftp a := lx_blank hf (n - a) a (by omega)
  have h0 := mRun_le mBlank f n (n - a) a ha
  rw [e0] at h0
  have e1 : mNext f n a mn = mNextAt f n (g_X6_next_0 n ftp a) mn := by unfold mNext; rw [e0]
  rw [e1]
  have hL : ∀ A, A = g_X6_next_0 n ftp a → p_X6_next_103 ftp (n - A) A = g_X6_next_103 n ftp a := fun A h => by rw [h]; rfl
  have hN : ∀ A, A = g_X6_next_0 n ftp a → p_X6_next_230 ftp (n - A) A 0 0 = g_X6_next_230 n ftp a := fun A h => by rw [h]; rfl
  unfold m_X6_next_h019 m_X6_next_h020 m_X6_next_h021 m_X6_next_h022 mNextAt
  generalize hA : g_X6_next_0 n ftp a = A at *
  have hL := hL A rfl
  have hN := hN A rfl
  by_cases c0 : n ≤ A
  · have eA : A = n := by omega
    rw [if_pos c0]
    simp only [if_pos (show nI A = nI n by rw [eA])]
    exact ⟨trivial, trivial, Or.inl ⟨rfl, rfl⟩⟩
  · have c0' : ¬ nI A = nI n := fun z => absurd (nI_eq1 (by omega) (by omega) z) (by omega)
    rw [if_neg c0]
    simp only [if_neg c0']
    have ef := hf A (by omega)
    by_cases c1 : 97 ≤ ftp A ∧ ftp A ≤ 122
    · have d1 : mLet (f A) = true := by unfold mLet; rw [ef]; exact decide_eq_true c1
      rw [if_pos d1]
      simp only [if_pos c1]
      have el : mRun mLet f n (n - A) A = g_X6_next_103 n ftp a := (lx_let hf (n - A) A (by omega)).trans hL
      have hle := mRun_le mLet f n (n - A) A (by omega)
      rw [el] at hle ⊢
      refine ⟨rfl, trivial, ?_⟩
      have hl : ∀ i, A ≤ i → i < g_X6_next_103 n ftp a → ¬ ftp i = 32 := by
        intro i h1 h2
        rw [← el] at h2
        have key : ∀ (k b : Nat), b + k = n → ∀ i, b ≤ i → i < mRun mLet f n k b → mLet (f i) = true := by
          intro k
          induction k with
          | zero => intro b hb i i1 i2; exact absurd i2 (by show ¬ i < b; omega)
          | succ k ih =>
            intro b hb i i1 i2
            rw [mRun] at i2
            by_cases c : (decide (b < n) && mLet (f b)) = true
            · rw [if_pos c] at i2
              by_cases e : i = b
              · subst e; simp only [Bool.and_eq_true] at c; exact c.2
              · exact ih (b + 1) (by omega) i (by omega) i2
            · rw [if_neg c] at i2; omega
        have hm := key (n - A) A (by omega) i h1 h2
        unfold mLet at hm
        have hm := of_decide_eq_true hm
        rw [hf i (by omega)] at hm
        intro e
        rw [e] at hm
        exact absurd hm.1 (by decide)
      exact wd_tok hf hn hle.1 hle.2 hl
    · have d1 : ¬ mLet (f A) = true := by unfold mLet; rw [ef]; exact fun z => c1 (of_decide_eq_true z)
      rw [if_neg d1]
      simp only [if_neg c1]
      by_cases c2 : 48 ≤ ftp A ∧ ftp A ≤ 57
      · have d2 : mDig (f A) = true := by unfold mDig; rw [ef]; exact decide_eq_true c2
        rw [if_pos d2]
        simp only [if_pos c2]
        obtain ⟨i1, i2, i3⟩ := lx_num hf hn (n - A) A 0 0 0 (by omega) (by omega) (fun _ => rfl)
        rw [hN] at i1 i2 i3
        have hle := mNumR_le f n (n - A) A 0 (by omega)
        rw [i1] at hle
        refine ⟨i1, trivial, ?_⟩
        by_cases c3 : nI (g_X6_next_230 n ftp a).2.1 ≤ 4
        · have h4 := nI_le1 (a := (g_X6_next_230 n ftp a).2.1) (b := 4) (by omega) (by omega) c3
          simp only [if_pos c3]
          rw [i1, if_neg (by omega)]
          exact Or.inr (Or.inr (Or.inl ⟨rfl, rfl, (i3 h4).symm⟩))
        · have h4 := nI_le0 (a := (g_X6_next_230 n ftp a).2.1) (b := 4) (by omega) (by omega) c3
          simp only [if_neg c3]
          rw [i1, if_pos (by omega)]
          exact Or.inr (Or.inl ⟨rfl, rfl⟩)
      · have d2 : ¬ mDig (f A) = true := by unfold mDig; rw [ef]; exact fun z => c2 (of_decide_eq_true z)
        rw [if_neg d2]
        simp only [if_neg c2]
        refine ⟨trivial, trivial, ?_⟩
        have hbA := hb A (by omega)
        have eK := nC_eq hbA.1
        have hK : nC (ftp A) < 256 := by have := nC_le (n := 255) (by omega) hbA; omega
        have hs := lx_sign _ hK
        rw [← eK] at hs
        rw [ef]
        by_cases cs : 0 ≤ gIx 12 (mChar (ftp A))
        · rw [if_pos cs]
          have h8 := hs.mp cs
          refine Or.inr (Or.inr (Or.inr (Or.inr (Or.inr (Or.inr (Or.inr (Or.inr (Or.inr (Or.inr ?_)))))))))
          have e : (if ftp A = 40 then ftp A else if ftp A = 41 then ftp A else if ftp A = 59 then ftp A else if ftp A = 43 then ftp A else if ftp A = 45 then ftp A else if ftp A = 42 then ftp A else if ftp A = 60 then ftp A else if ftp A = 61 then ftp A else -1) = ftp A := by
            rcases h8 with z | z | z | z | z | z | z | z <;> rw [z] <;> decide
          exact ⟨e.symm, by rw [e]; exact h8⟩
        · rw [if_neg cs]
          have h8 : ¬ (ftp A = 40 ∨ ftp A = 41 ∨ ftp A = 59 ∨ ftp A = 43 ∨ ftp A = 45 ∨ ftp A = 42 ∨ ftp A = 60 ∨ ftp A = 61) := fun z => cs (hs.mpr z)
          refine Or.inr (Or.inl ⟨rfl, ?_⟩)
          rw [if_neg (fun z => h8 (Or.inl z)), if_neg (fun z => h8 (Or.inr (Or.inl z))), if_neg (fun z => h8 (Or.inr (Or.inr (Or.inl z)))), if_neg (fun z => h8 (Or.inr (Or.inr (Or.inr (Or.inl z))))), if_neg (fun z => h8 (Or.inr (Or.inr (Or.inr (Or.inr (Or.inl z)))))), if_neg (fun z => h8 (Or.inr (Or.inr (Or.inr (Or.inr (Or.inr (Or.inl z))))))), if_neg (fun z => h8 (Or.inr (Or.inr (Or.inr (Or.inr (Or.inr (Or.inr (Or.inl z)))))))), if_neg (fun z => h8 (Or.inr (Or.inr (Or.inr (Or.inr (Or.inr (Or.inr (Or.inr z))))))))]
