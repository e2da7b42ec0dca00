/-! the courts: a new judge, a new pebble, pebbles by a sheet -/
def RgK (pb : Nat) (fki : Nat → Int32) : Prop := ∀ p, p < pb → 0 ≤ fki p ∧ fki p ≤ 5
def QP (pb : Nat) (fki fmo fsz frd Fkd Fmo Fst : Nat → Int32) : Prop := CtP pb fki fmo fsz frd Fkd Fmo Fst ∧ RgP pb fmo fsz ∧ RgK pb fki
theorem d10 {a : Nat} (h : a < 2 ^ 31) : nI a / 10 = nI (a / 10) := pk_div (a := a) (d := 10) h (by omega) (by omega)
theorem r10 {a : Nat} (h : a < 2 ^ 31) : iRem (nI a) 10 = nI (a % 10) := nI_rem (a := a) (d := 10) h (by omega) (by omega)
theorem d100 {a : Nat} (h : a < 2 ^ 31) : nI a / 100 = nI (a / 100) := pk_div (a := a) (d := 100) h (by omega) (by omega)
theorem r100 {a : Nat} (h : a < 2 ^ 31) : iRem (nI a) 100 = nI (a % 100) := nI_rem (a := a) (d := 100) h (by omega) (by omega)
theorem judge_J {jg : Nat} {fso fmi fpa Fro : Nat → Int32} {v : Int32} (hj : jg ≤ 4) (hJ : CtJ fso fmi fpa Fro) (rJ : RgJ fso fpa) : CtJ (m_X5_judge_n2 jg fso v) (m_X5_judge_n3 jg fmi v) (m_X5_judge_n4 jg fpa v) (m_X6_judge_ro jg Fro v) ∧ RgJ (m_X5_judge_n2 jg fso v) (m_X5_judge_n4 jg fpa v) := by
  unfold m_X5_judge_n2 m_X5_judge_n3 m_X5_judge_n4 m_X6_judge_ro m_X0_addJudge_n2 m_X0_addJudge_n3 m_X0_addJudge_n4
  by_cases c : 0 ≤ v ∧ v ≤ 20
  · simp only [if_pos c]
    by_cases d : jg = 4
    · have a : ¬ nI jg < 4 := fun z => absurd (nI_lt1 (a := jg) (b := 4) (by omega) (by omega) z) (by omega)
      have b : nI jg = 4 := by rw [d]; rfl
      simp only [if_neg a, if_pos b]; exact ⟨hJ, rJ⟩
    · have a : nI jg < 4 := nI_lt (a := jg) (b := 4) (by omega) (by omega)
      have b : ¬ nI jg = 4 := fun z => d (nI_eq1 (a := jg) (b := 4) (by omega) (by omega) z)
      simp only [if_pos a, if_neg b]
      refine ⟨fun j h => ?_, fun j h => ?_⟩
      · obtain ⟨x1, x2, x3⟩ := hJ j h
        by_cases e : j = jg
        · rw [upd_a9 e, upd_a9 e, upd_a9 e, upd_n9 (show ¬ 3 * j = 3 * jg + 2 by omega), upd_n9 (show ¬ 3 * j = 3 * jg + 1 by omega), upd_a9 (show 3 * j = 3 * jg by omega), upd_n9 (show ¬ 3 * j + 1 = 3 * jg + 2 by omega), upd_a9 (show 3 * j + 1 = 3 * jg + 1 by omega), upd_a9 (show 3 * j + 2 = 3 * jg + 2 by omega)]
          exact ⟨rfl, rfl, rfl⟩
        · rw [upd_n9 e, upd_n9 e, upd_n9 e, upd_n9 (show ¬ 3 * j = 3 * jg + 2 by omega), upd_n9 (show ¬ 3 * j = 3 * jg + 1 by omega), upd_n9 (show ¬ 3 * j = 3 * jg by omega), upd_n9 (show ¬ 3 * j + 1 = 3 * jg + 2 by omega), upd_n9 (show ¬ 3 * j + 1 = 3 * jg + 1 by omega), upd_n9 (show ¬ 3 * j + 1 = 3 * jg by omega), upd_n9 (show ¬ 3 * j + 2 = 3 * jg + 2 by omega), upd_n9 (show ¬ 3 * j + 2 = 3 * jg + 1 by omega), upd_n9 (show ¬ 3 * j + 2 = 3 * jg by omega)]
          exact ⟨x1, x2, x3⟩
      · by_cases e : j = jg
        · rw [upd_a9 e, upd_a9 e, ← nC_eq c.1]; exact ⟨c, by decide, by decide⟩
        · rw [upd_n9 e, upd_n9 e]; exact rJ j h
  · simp only [if_neg c]; exact ⟨hJ, rJ⟩
theorem peb_Q {pb : Nat} {fki fmo fsz frd Fkd Fmo Fst : Nat → Int32} {a b : Int32} (hp : pb ≤ 6) (h : QP pb fki fmo fsz frd Fkd Fmo Fst) : QP (m_X5_pebble_nw10 pb a b) (m_X5_pebble_n5 pb fki a b) (m_X5_pebble_n6 pb fmo a b) (m_X5_pebble_n7 pb fsz a b) (m_X5_pebble_n8 pb frd a b) (m_X6_pebble_kd pb Fkd a b) (m_X6_pebble_mo pb Fmo a b) (m_X6_pebble_st pb Fst a b) ∧ (∀ p, p < pb → m_X5_pebble_n5 pb fki a b p = fki p ∧ m_X5_pebble_n6 pb fmo a b p = fmo p) ∧ pb ≤ m_X5_pebble_nw10 pb a b := by
  unfold m_X5_pebble_nw10 m_X5_pebble_n5 m_X5_pebble_n6 m_X5_pebble_n7 m_X5_pebble_n8 m_X6_pebble_kd m_X6_pebble_mo m_X6_pebble_st m_X0_addPebble_h010 m_X0_addPebble_n5 m_X0_addPebble_n6 m_X0_addPebble_n7 m_X0_addPebble_n8
  by_cases c1 : 0 ≤ a ∧ a ≤ 59
  case neg => simp only [if_neg c1]; exact ⟨h, fun p hp => ⟨trivial, trivial⟩, Nat.le_refl _⟩
  by_cases c2 : 0 ≤ b ∧ b ≤ 9999
  case neg => simp only [if_pos c1, if_neg c2]; exact ⟨h, fun p hp => ⟨trivial, trivial⟩, Nat.le_refl _⟩
  simp only [if_pos c1, if_pos c2]
  by_cases d : pb = 6
  · have x : ¬ nI pb < 6 := fun z => absurd (nI_lt1 (a := pb) (b := 6) (by omega) (by omega) z) (by omega)
    have y : nI pb = 6 := by rw [d]; rfl
    simp only [if_neg x, if_pos y]; exact ⟨h, fun p hp => ⟨trivial, trivial⟩, Nat.le_refl _⟩
  · have x : nI pb < 6 := nI_lt (a := pb) (b := 6) (by omega) (by omega)
    have y : ¬ nI pb = 6 := fun z => d (nI_eq1 (a := pb) (b := 6) (by omega) (by omega) z)
    simp only [if_pos x, if_neg y]
    have ha := nC_le (n := 59) (by omega) c1
    have hb := nC_le (n := 9999) (by omega) c2
    rw [d10 (nC_31 a), r10 (nC_31 a), d100 (nC_31 b), r100 (nC_31 b)]
    obtain ⟨hC, hR, hK⟩ := h
    refine ⟨⟨fun p h => ?_, fun p h => ?_, fun p h => ?_⟩, fun p h => ⟨upd_n9 (by omega), upd_n9 (by omega)⟩, by omega⟩
    · by_cases e : p = pb
      · rw [upd_a9 e, upd_a9 e, upd_a9 e, upd_a9 e, upd_a9 e, upd_a9 e, upd_n9 (show ¬ 2 * p = 2 * pb + 1 by omega), upd_a9 (show 2 * p = 2 * pb by omega), upd_a9 (show 2 * p + 1 = 2 * pb + 1 by omega)]
        exact ⟨rfl, rfl, rfl, rfl⟩
      · rw [upd_n9 e, upd_n9 e, upd_n9 e, upd_n9 e, upd_n9 e, upd_n9 e, upd_n9 (show ¬ 2 * p = 2 * pb + 1 by omega), upd_n9 (show ¬ 2 * p = 2 * pb by omega), upd_n9 (show ¬ 2 * p + 1 = 2 * pb + 1 by omega), upd_n9 (show ¬ 2 * p + 1 = 2 * pb by omega)]
        exact hC p (by omega)
    · by_cases e : p = pb
      · rw [upd_a9 e, upd_a9 e]
        exact ⟨⟨nI_pos' (by omega), nI_le (b := 9) (by omega) (by omega)⟩, nI_pos' (by omega), nI_le (b := 99) (by omega) (by omega)⟩
      · rw [upd_n9 e, upd_n9 e]; exact hR p (by omega)
    · by_cases e : p = pb
      · rw [upd_a9 e]; exact ⟨nI_pos' (by omega), nI_le (b := 5) (by omega) (by omega)⟩
      · rw [upd_n9 e]; exact hK p (by omega)
theorem pbq_loop {fql : Nat → Nat} {frr : Nat → Int32} {sn : Nat} {v : Int32} {fsq : Nat → Nat} {fce : Nat → Int32} (hsn : sn < 4) (hl : fql sn = fsq sn) (hlen : fql sn ≤ 40) (hR : ∀ i, i < 40 → frr i = fce (40 * sn + i)) : ∀ (q k cm : Nat) (cm' : Int32) (a b c d a' b' c' : Nat → Int32) (pb : Nat), pb ≤ 6 → k + q ≤ 6 → (0 ≤ v ∨ k = 0) → QP pb a b c d a' b' c' → QP (p_X5_pebblesBy_A_70 fql frr sn v q k cm a b c d pb).2.2.2.2.2.2 (p_X5_pebblesBy_A_70 fql frr sn v q k cm a b c d pb).2.2.1 (p_X5_pebblesBy_A_70 fql frr sn v q k cm a b c d pb).2.2.2.1 (p_X5_pebblesBy_A_70 fql frr sn v q k cm a b c d pb).2.2.2.2.1 (p_X5_pebblesBy_A_70 fql frr sn v q k cm a b c d pb).2.2.2.2.2.1 (p_X6_pebblesBy_64 fsq fce (nI sn) v q k cm' a' b' c' pb).2.2.1 (p_X6_pebblesBy_64 fsq fce (nI sn) v q k cm' a' b' c' pb).2.2.2.1 (p_X6_pebblesBy_64 fsq fce (nI sn) v q k cm' a' b' c' pb).2.2.2.2.1 ∧ (∀ p, p < pb → (p_X5_pebblesBy_A_70 fql frr sn v q k cm a b c d pb).2.2.1 p = a p ∧ (p_X5_pebblesBy_A_70 fql frr sn v q k cm a b c d pb).2.2.2.1 p = b p) ∧ pb ≤ (p_X5_pebblesBy_A_70 fql frr sn v q k cm a b c d pb).2.2.2.2.2.2
  | 0, k, cm, cm', a, b, c, d, a', b', c', pb, h1, h2, h3, h4 => ⟨h4, fun p hp => ⟨rfl, rfl⟩, Nat.le_refl _⟩
  | q + 1, k, cm, cm', a, b, c, d, a', b', c', pb, h1, h2, h3, h4 => by
    have e0 : nC (nI sn) = sn := nC_nI (by omega)
    rw [p_X5_pebblesBy_A_70, p_X6_pebblesBy_64, e0, ← hl]
    rcases pb_cond (v := v) (k := k) hlen (by omega) h3 with ⟨c1, c2, c3, c4, c5, c6⟩ | ⟨c1, c2⟩
    · have e1 : nC (v + nI (2 * k)) = nC v + 2 * k := by rw [c5]; exact nC_nI (by omega)
      rw [if_pos c1, if_neg c2, if_neg c3, if_pos c4, e1]
      have r1 := hR (nC v + 2 * k) (by omega)
      have r2 := hR (nC v + 2 * k + 1) (by omega)
      have g1 : 40 * sn + (nC v + 2 * k) + 1 = 40 * sn + (nC v + 2 * k + 1) := rfl
      rw [g1, ← r1, ← r2]
      have hp := pb_res (pb := pb) h1 (Or.inl rfl : cR False (frr (nC v + 2 * k)) (frr (nC v + 2 * k))) (Or.inl rfl : cR False (frr (nC v + 2 * k + 1)) (frr (nC v + 2 * k + 1)))
      have hq := pb_num (pb := pb) h1 (Or.inl rfl : cR False (frr (nC v + 2 * k)) (frr (nC v + 2 * k))) (Or.inl rfl : cR False (frr (nC v + 2 * k + 1)) (frr (nC v + 2 * k + 1)))
      have hq6 : m_X5_pebble_nw10 pb (frr (nC v + 2 * k)) (frr (nC v + 2 * k + 1)) ≤ 6 := X5_pebble_le h1
      obtain ⟨x1, x2, x3⟩ := peb_Q (a := frr (nC v + 2 * k)) (b := frr (nC v + 2 * k + 1)) h1 h4
      rw [← hp, ← hq]
      by_cases c7 : m_X5_pebble pb (frr (nC v + 2 * k)) (frr (nC v + 2 * k + 1)) < 0
      · rw [if_pos c7, if_pos c7]
        obtain ⟨y1, y2, y3⟩ := pbq_loop hsn hl hlen hR q (k + 1) cm (cm' + 0) _ _ _ _ _ _ _ _ hq6 (by omega) (Or.inl (Int32.not_lt.mp c2)) x1
        exact ⟨y1, fun p hp => ⟨(y2 p (by omega)).1.trans (x2 p hp).1, (y2 p (by omega)).2.trans (x2 p hp).2⟩, Nat.le_trans x3 y3⟩
      · rw [if_neg c7, if_neg c7]
        obtain ⟨y1, y2, y3⟩ := pbq_loop hsn hl hlen hR q (k + 1) (cm + 1) (cm' + 1) _ _ _ _ _ _ _ _ hq6 (by omega) (Or.inl (Int32.not_lt.mp c2)) x1
        exact ⟨y1, fun p hp => ⟨(y2 p (by omega)).1.trans (x2 p hp).1, (y2 p (by omega)).2.trans (x2 p hp).2⟩, Nat.le_trans x3 y3⟩
    · rw [if_neg (show ¬ mHolds (fql sn) (v + nI (2 * k)) 2 = true by rw [c1]; decide)]
      have fin : QP pb a b c d a' b' c' ∧ (∀ p, p < pb → a p = a p ∧ b p = b p) ∧ pb ≤ pb := ⟨h4, fun p hp => ⟨rfl, rfl⟩, Nat.le_refl _⟩
      by_cases d1 : v < 0
      · rw [if_pos d1]; exact fin
      · rw [if_neg d1]
        by_cases d2 : v + nI (2 * k) < nI (nC v)
        · rw [if_pos d2]; exact fin
        · rw [if_neg d2, if_neg ((c2.resolve_left d1).resolve_left d2)]; exact fin
theorem kind_same : ∀ a, a < 6 → ∀ b, b < 7 → (m_X5_isOfKind (nI a) (nI b) = if 6 ≤ nI b then 0 else m_X6_isUnder (nI a) (nI b)) := by decide +kernel
theorem taken_res {jg pb : Nat} {fso fmi fpa fki fmo fsz frd Fro Fkd Fmo Fst : Nat → Int32} {v0 v1 : Int32} (hj : jg ≤ 4) (hp : pb ≤ 6) (hJ : CtJ fso fmi fpa Fro) (hQ : QP pb fki fmo fsz frd Fkd Fmo Fst) : m_X5_taken jg pb fpa fki v0 v1 = m_X6_taken pb jg Fkd Fro v0 v1 := by
  unfold m_X5_taken m_X6_taken
  by_cases c1 : 0 ≤ v1 ∧ v1 ≤ 6
  case neg => rw [if_neg c1, if_neg c1]
  rw [if_pos c1, if_pos c1]
  by_cases c0 : 0 ≤ v0 ∧ v0 ≤ 9
  case neg => rw [if_neg c0, if_neg c0]
  rw [if_pos c0, if_pos c0]
  have h0 := nC_le (n := 9) (by omega) c0
  have h1 := nC_le (n := 6) (by omega) c1
  have h6 : nC v1 < 7 := by omega
  by_cases c2 : nI (nC v0) < 6
  · rw [if_pos c2, if_pos c2]
    by_cases c3 : nI (nC v0) < nI pb
    · have l3 := nI_lt1 (by omega) (by omega) c3
      rw [if_pos (show mHas pb (nI (nC v0)) = true from mHas_no (by omega) l3), if_pos c3]
      have ek := (hQ.1 (nC v0) l3).1
      obtain ⟨k, hk, e⟩ := i_nat (n := 5) (by omega) (hQ.2.2 (nC v0) l3)
      rw [← ek, e, kind_same k (by omega) (nC v1) h6]
      by_cases c4 : 6 ≤ nI (nC v1)
      · rw [if_pos c4, if_pos c4, if_pos rfl]
      · rw [if_neg c4, if_neg c4]
    · rw [if_neg (show ¬ mHas pb (nI (nC v0)) = true from fun z => c3 (of_decide_eq_true z).2), if_neg c3]
  · rw [if_neg c2, if_neg c2]
    by_cases c3 : nI (nC v0 - 6) < nI jg
    · have l3 := nI_lt1 (by omega) (by omega) c3
      rw [if_pos (show mHas jg (nI (nC v0 - 6)) = true from mHas_no (by omega) l3), if_pos c3, (hJ (nC v0 - 6) (by omega)).2.2]
    · rw [if_neg (show ¬ mHas jg (nI (nC v0 - 6)) = true from fun z => c3 (of_decide_eq_true z).2), if_neg c3]
