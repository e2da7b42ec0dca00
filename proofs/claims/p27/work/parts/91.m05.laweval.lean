/-! what a text answers, a mile, a walk: the same on both sides when the courts and the text are the same -/
theorem i_as {a b : Int32} (h1 : a ≤ b) (h2 : b ≤ a) : a = b := Int32.toInt_inj.mp (by
  have z1 := Int32.le_iff_toInt_le.mp h1
  have z2 := Int32.le_iff_toInt_le.mp h2
  omega)
theorem i_le {a b : Int32} (h : a < b) : a ≤ b := Int32.le_iff_toInt_le.mpr (by
  have z := Int32.lt_iff_toInt_lt.mp h
  omega)
theorem i_ltle {a b c : Int32} (h : a < b) (h2 : b ≤ c) : a < c := Int32.lt_iff_toInt_lt.mpr (by
  have z := Int32.lt_iff_toInt_lt.mp h
  have z2 := Int32.le_iff_toInt_le.mp h2
  omega)
theorem i_lelt {a b c : Int32} (h : a ≤ b) (h2 : b < c) : a < c := Int32.lt_iff_toInt_lt.mpr (by
  have z := Int32.le_iff_toInt_le.mp h
  have z2 := Int32.lt_iff_toInt_lt.mp h2
  omega)
theorem i_asym {a b : Int32} (h : a < b) : ¬ b < a := fun h2 => by
  have z := Int32.lt_iff_toInt_lt.mp h
  have z2 := Int32.lt_iff_toInt_lt.mp h2
  omega
theorem t_0 : (0 : Int32).toInt = 0 := rfl
theorem t_add {a b : Int32} (h1 : -1073741824 ≤ a.toInt + b.toInt) (h2 : a.toInt + b.toInt < 1073741824) : (a + b).toInt = a.toInt + b.toInt := by
  rw [Int32.toInt_add]
  unfold Int.bmod
  dsimp only
  split <;> omega
theorem t_sub {a b : Int32} (h1 : -1073741824 ≤ a.toInt - b.toInt) (h2 : a.toInt - b.toInt < 1073741824) : (a - b).toInt = a.toInt - b.toInt := by
  rw [Int32.toInt_sub]
  unfold Int.bmod
  dsimp only
  split <;> omega
theorem i_rng {x : Int32} {n : Nat} (hn : n < 2 ^ 31) (h : 0 ≤ x ∧ x ≤ nI n) : 0 ≤ x.toInt ∧ x.toInt ≤ (n : Int) := by
  have z1 := Int32.le_iff_toInt_le.mp h.1
  have z2 := Int32.le_iff_toInt_le.mp h.2
  rw [nI_toInt hn] at z2
  rw [t_0] at z1
  exact ⟨z1, z2⟩
theorem i_nat {x : Int32} {n : Nat} (hn : n < 2 ^ 31) (h : 0 ≤ x ∧ x ≤ nI n) : ∃ k, k ≤ n ∧ x = nI k := ⟨nC x, nC_le hn h, nC_eq h.1⟩
theorem max0 {y : Int32} : mMax 0 y = if 0 ≤ y then y else 0 := by
  unfold mMax
  by_cases c : 0 < y
  · rw [if_pos c, if_pos (i_le c)]
  · rw [if_neg c]
    by_cases d : 0 ≤ y
    · rw [if_pos d]; exact i_as d (Int32.not_lt.mp c)
    · rw [if_neg d]
theorem max0_pos {y : Int32} : 0 ≤ mMax 0 y := by
  rw [max0]
  by_cases d : 0 ≤ y
  · rw [if_pos d]; exact d
  · rw [if_neg d]; decide
theorem min_within {x n : Int32} (h : 0 ≤ x) : mMin n x = m_X6_within x 0 n := by
  unfold mMin m_X6_within
  rw [if_pos h]
  by_cases c1 : x < n
  · rw [if_pos c1, if_pos (i_le c1)]
  · rw [if_neg c1]
    by_cases c3 : x ≤ n
    · rw [if_pos c3]; exact i_as (Int32.not_lt.mp c1) c3
    · rw [if_neg c3]
theorem within_eq {x n : Int32} (hn : 0 ≤ n) : mMax 0 (mMin n x) = m_X6_within x 0 n := by
  by_cases c0 : 0 ≤ x
  · rw [min_within c0, max0]
    unfold m_X6_within
    rw [if_pos c0]
    by_cases c : x ≤ n
    · rw [if_pos c, if_pos c0]
    · rw [if_neg c, if_pos hn]
  · have hx : x < 0 := Int32.not_le.mp c0
    unfold mMin m_X6_within
    rw [if_pos (i_ltle hx hn), if_neg c0, max0, if_neg c0]
theorem max_within {x n : Int32} (h : x ≤ n) : mMax 0 x = m_X6_within x 0 n := by
  rw [max0]
  unfold m_X6_within
  by_cases c : 0 ≤ x
  · rw [if_pos c, if_pos c, if_pos h]
  · rw [if_neg c, if_neg c]
theorem within_rng {x n : Int32} (hn : 0 ≤ n) : 0 ≤ m_X6_within x 0 n ∧ m_X6_within x 0 n ≤ n := by
  unfold m_X6_within
  by_cases c : 0 ≤ x
  · rw [if_pos c]
    by_cases d : x ≤ n
    · rw [if_pos d]; exact ⟨c, d⟩
    · rw [if_neg d]; exact ⟨hn, Int32.le_iff_toInt_le.mpr (Int.le_refl _)⟩
  · rw [if_neg c]; exact ⟨by decide, hn⟩
theorem vRun_code {f g na : Nat → Int32} : ∀ (q k : Nat) (L : List Int32), (∀ i, k ≤ i → i < k + q → f i = g i) → vRun f na q k L = vRun g na q k L
  | 0, k, L, h => rfl
  | q + 1, k, L, h => by
    rw [vRun, vRun, h k (Nat.le_refl _) (by omega)]
    exact vRun_code q (k + 1) _ (fun i h1 h2 => h i (by omega) (by omega))
/-- a text of the class and one of the reference say the same -/
def TxR (fct : Nat → Int32) (fet : Nat → Nat) (Fcd : Nat → Int32) (Fsr : Nat → Nat) (ru : Nat) : Prop := (∀ i, i < fet 2 → trX (fct i) = Fcd (200 * ru + i)) ∧ Fsr (4 * ru) = 0 ∧ ∀ pt, pt < 3 → Fsr (4 * ru + pt + 1) = fet pt
def CtJ (fso fmi fpa Fro : Nat → Int32) : Prop := ∀ j, j < 4 → fso j = Fro (3 * j) ∧ fmi j = Fro (3 * j + 1) ∧ fpa j = Fro (3 * j + 2)
def CtP (pb : Nat) (fki fmo fsz frd Fkd Fmo Fst : Nat → Int32) : Prop := ∀ p, p < pb → fki p = Fkd p ∧ fmo p = Fmo p ∧ fsz p = Fst (2 * p) ∧ frd p = Fst (2 * p + 1)
def RgJ (fso fpa : Nat → Int32) : Prop := ∀ j, j < 4 → (0 ≤ fso j ∧ fso j ≤ 20) ∧ (0 ≤ fpa j ∧ fpa j ≤ 99999)
def RgP (pb : Nat) (fmo fsz : Nat → Int32) : Prop := ∀ p, p < pb → (0 ≤ fmo p ∧ fmo p ≤ 9) ∧ (0 ≤ fsz p ∧ fsz p ≤ 99)
section EV
variable {fct : Nat → Int32} {fet : Nat → Nat} {Fcd : Nat → Int32} {Fsr : Nat → Nat} {ru pt jn pn pb : Nat} {na : Nat → Int32} {fso fmi fpa fki fmo fsz frd Fro Fkd Fmo Fst : Nat → Int32}
theorem val_eq (hw : mWx fct fet) (hT : TxR fct fet Fcd Fsr ru) (hp : pt < 3) : mValX fct fet pt na = mSays Fcd Fsr ru pt na := by
  unfold mValX mSays
  have e1 : Fsr (4 * ru + pt + 1) = fet pt := hT.2.2 pt hp
  have e0 : Fsr (4 * ru + pt) = mFrom fet pt := by
    unfold mFrom
    by_cases c : pt = 0
    · rw [if_pos c, c]; exact hT.2.1
    · rw [if_neg c]
      have e := hT.2.2 (pt - 1) (by omega)
      rw [show 4 * ru + (pt - 1) + 1 = 4 * ru + pt by omega] at e
      exact e
  have h1 := (hw.1 pt hp).1
  have h2 := (hw.1 pt hp).2.1
  have m1 : fet 0 ≤ fet 1 := (hw.1 1 (by decide)).1
  have m2 : fet 1 ≤ fet 2 := (hw.1 2 (by decide)).1
  have h3 : fet pt ≤ fet 2 := by
    have w : pt = 0 ∨ pt = 1 ∨ pt = 2 := by omega
    rcases w with w | w | w <;> subst w <;> omega
  rw [e0, e1, vRun_code _ _ _ (fun i _ hi => hT.1 i (by omega))]
theorem says_eq (hw : mWx fct fet) (hT : TxR fct fet Fcd Fsr ru) (hp : pt < 3) (hJ : CtJ fso fmi fpa Fro) (hP : CtP pb fki fmo fsz frd Fkd Fmo Fst) (hj : jn < 4) (hq : pn < pb) : m_X0_says pt jn pn fso fmi fmo fsz frd fct fet = m_X6_asksOf ru Fst Fro Fmo Fcd Fsr pt jn pn := by
  obtain ⟨a1, a2, a3⟩ := hJ jn hj
  obtain ⟨b1, b2, b3, b4⟩ := hP pn hq
  unfold m_X0_says m_X6_asksOf
  rw [a1, a2, b2, b3, b4, val_eq hw hT hp, within_eq (by decide), within_eq (by decide), within_eq (by decide)]
theorem asks_rng0 : 0 ≤ m_X6_asksOf ru Fst Fro Fmo Fcd Fsr 0 jn pn ∧ m_X6_asksOf ru Fst Fro Fmo Fcd Fsr 0 jn pn ≤ nI 99 := by
  unfold m_X6_asksOf
  rw [if_pos (show nI 0 = 0 from rfl)]
  exact within_rng (by decide)
theorem asks_rng1 : 0 ≤ m_X6_asksOf ru Fst Fro Fmo Fcd Fsr 1 jn pn ∧ m_X6_asksOf ru Fst Fro Fmo Fcd Fsr 1 jn pn ≤ nI 20 := by
  unfold m_X6_asksOf
  rw [if_neg (show ¬ nI 1 = 0 by decide), if_pos (show nI 1 = 1 from rfl)]
  exact within_rng (by decide)
theorem sand_eq (hP : CtP pb fki fmo fsz frd Fkd Fmo Fst) (hq : pn < pb) : m_X0_isSand pn fki fmo fsz = m_X6_isSand Fst Fkd Fmo pn := by
  obtain ⟨b1, b2, b3, b4⟩ := hP pn hq
  unfold m_X0_isSand m_X6_isSand
  rw [b1, b2, b3]
  by_cases c2 : Fkd pn = 2
  · rw [if_pos c2, if_pos c2]
  rw [if_neg c2, if_neg c2]
  by_cases c3 : Fkd pn = 3
  · rw [if_pos c3, if_neg (show ¬ Fkd pn = 4 by rw [c3]; decide), if_neg (show ¬ Fkd pn = 5 by rw [c3]; decide)]
  · rw [if_neg c3]
/-- a hurt: never below nothing, never above 216 -/
theorem hurt_num : ∀ a, a < 100 → ∀ b, b < 21 → mMax 0 ((nI a - nI b) / 2) ≤ nI 216 := by decide +kernel
theorem hurt_mul : ∀ b, b < 21 → ∀ c, c < 10 → 0 ≤ (nI b * nI c) / 4 ∧ (nI b * nI c) / 4 ≤ nI 45 := by decide +kernel
theorem max_le {y : Int32} {n : Nat} (hn : n < 2 ^ 31) (h : y.toInt ≤ (n : Int)) : mMax 0 y ≤ nI n := by
  rw [max0]
  by_cases c : 0 ≤ y
  · rw [if_pos c]; exact Int32.le_iff_toInt_le.mpr (by rw [nI_toInt hn]; exact h)
  · rw [if_neg c]; exact nI_pos' hn
theorem hurt_rng {v : Int32} (hv : 0 ≤ v ∧ v ≤ nI 99) (hJ : RgJ fso fpa) (hP : RgP pb fmo fsz) (hj : jn < 4) (hq : pn < pb) : 0 ≤ m_X0_hurts jn pn fso fki fmo v ∧ m_X0_hurts jn pn fso fki fmo v ≤ nI 216 := by
  have r1 := i_rng (n := 99) (by omega) hv
  have r2 := i_rng (n := 20) (by omega) (hJ jn hj).1
  have r3 := i_rng (n := 9) (by omega) (hP pn hq).1
  have e1 : (v - fso jn).toInt = v.toInt - (fso jn).toInt := t_sub (by omega) (by omega)
  have e2 : (v - fso jn + fmo pn).toInt = v.toInt - (fso jn).toInt + (fmo pn).toInt := by rw [t_add (by omega) (by omega), e1]
  have e3 : (2 * (v - fso jn + fmo pn)).toInt = 2 * (v.toInt - (fso jn).toInt + (fmo pn).toInt) := by
    have t2 : (2 : Int32).toInt = 2 := rfl
    rw [Int32.toInt_mul, e2, t2]
    unfold Int.bmod
    dsimp only
    split <;> omega
  unfold m_X0_hurts
  by_cases c1 : fki pn = 1
  · rw [if_pos c1]; exact ⟨max0_pos, max_le (by omega) (by omega)⟩
  rw [if_neg c1]
  by_cases c2 : fki pn = 2
  · rw [if_pos c2]; exact ⟨max0_pos, max_le (by omega) (by omega)⟩
  rw [if_neg c2]
  by_cases c3 : fki pn = 3
  · rw [if_pos c3]
    by_cases d : 5 ≤ fso jn
    · rw [if_pos d]; exact ⟨max0_pos, max_le (by omega) (by omega)⟩
    · rw [if_neg d]; exact ⟨max0_pos, max_le (by omega) (by omega)⟩
  rw [if_neg c3]
  by_cases c4 : fki pn = 4
  · rw [if_pos c4]
    refine ⟨max0_pos, ?_⟩
    obtain ⟨a, ha, ea⟩ := i_nat (n := 99) (by omega) hv
    obtain ⟨b, hb, eb⟩ := i_nat (n := 20) (by omega) (hJ jn hj).1
    rw [ea, eb]
    exact hurt_num a (by omega) b (by omega)
  rw [if_neg c4]
  by_cases c5 : fki pn = 5
  · rw [if_pos c5]
    refine ⟨max0_pos, max_le (by omega) ?_⟩
    obtain ⟨b, hb, eb⟩ := i_nat (n := 20) (by omega) (hJ jn hj).1
    obtain ⟨c, hc, ec⟩ := i_nat (n := 9) (by omega) (hP pn hq).1
    have r4 := i_rng (n := 45) (by omega) (hurt_mul b (by omega) c (by omega))
    rw [← eb, ← ec] at r4
    rw [t_sub (by omega) (by omega)]
    omega
  · rw [if_neg c5]; exact ⟨max0_pos, max_le (by omega) (by omega)⟩
theorem hurt_eq (hw : mWx fct fet) (hT : TxR fct fet Fcd Fsr ru) (hJ : CtJ fso fmi fpa Fro) (hP : CtP pb fki fmo fsz frd Fkd Fmo Fst) (hj : jn < 4) (hq : pn < pb) : m_X0_hurts jn pn fso fki fmo (m_X0_says 0 jn pn fso fmi fmo fsz frd fct fet) = m_X6_hurtsOf ru Fst Fro Fmo Fkd Fcd Fsr jn pn := by
  rw [says_eq hw hT (by decide) hJ hP hj hq]
  obtain ⟨a1, a2, a3⟩ := hJ jn hj
  obtain ⟨b1, b2, b3, b4⟩ := hP pn hq
  unfold m_X0_hurts m_X6_hurtsOf
  rw [a1, b1, b2]
  rw [max0, max0, max0, max0, max0]
theorem wear_eq (hw : mWx fct fet) (hT : TxR fct fet Fcd Fsr ru) (hJ : CtJ fso fmi fpa Fro) (hP : CtP pb fki fmo fsz frd Fkd Fmo Fst) (hj : jn < 4) (hq : pn < pb) : m_X0_wears pn fki (m_X0_says 1 jn pn fso fmi fmo fsz frd fct fet) = m_X6_wearsOf ru Fst Fro Fmo Fkd Fcd Fsr jn pn := by
  rw [says_eq hw hT (by decide) hJ hP hj hq]
  unfold m_X0_wears m_X6_wearsOf
  rw [(hP pn hq).1]
theorem wear_num : ∀ a, a < 21 → (0 ≤ 2 * nI a ∧ 2 * nI a ≤ nI 40) ∧ (0 ≤ nI a / 2 ∧ nI a / 2 ≤ nI 40) ∧ (0 ≤ nI a ∧ nI a ≤ nI 40) := by decide +kernel
theorem wear_rng {v : Int32} (hv : 0 ≤ v ∧ v ≤ nI 20) : 0 ≤ m_X0_wears pn fki v ∧ m_X0_wears pn fki v ≤ nI 40 := by
  obtain ⟨a, ha, ea⟩ := i_nat (n := 20) (by omega) hv
  subst ea
  obtain ⟨w1, w2, w3⟩ := wear_num a (by omega)
  unfold m_X0_wears
  repeat' split
  all_goals first
    | exact w1
    | exact w2
    | exact w3
    | exact ⟨by decide, by decide⟩
theorem mile_eq (hw : mWx fct fet) (hT : TxR fct fet Fcd Fsr ru) (hJ : CtJ fso fmi fpa Fro) (hP : CtP pb fki fmo fsz frd Fkd Fmo Fst) (hj : jn < 4) (hq : pn < pb) : m_X0_mile jn pn fso fmi fki fmo fsz frd fct fet = m_X6_mile ru Fst Fro Fmo Fkd Fcd Fsr jn pn := by
  unfold m_X0_mile m_X6_mile
  rw [sand_eq hP hq, hurt_eq hw hT hJ hP hj hq]
theorem mile_P {v : Int32} (hv : 0 ≤ v ∧ v ≤ nI 1000000) (hw : mWx fct fet) (hT : TxR fct fet Fcd Fsr ru) (hJ : CtJ fso fmi fpa Fro) (hP : CtP pb fki fmo fsz frd Fkd Fmo Fst) (rP : RgP pb fmo fsz) (hj : jn < 4) (hq : pn < pb) : CtP pb fki fmo (m_X0_mile_n7 jn pn fso fmi fki fmo fsz frd fct fet v) frd Fkd Fmo (m_X6_mile_st ru Fst Fro Fmo Fkd Fcd Fsr v jn pn) ∧ RgP pb fmo (m_X0_mile_n7 jn pn fso fmi fki fmo fsz frd fct fet v) := by
  unfold m_X0_mile_n7 m_X6_mile_st
  rw [sand_eq hP hq, wear_eq hw hT hJ hP hj hq]
  by_cases c : m_X6_isSand Fst Fkd Fmo pn = 0
  · rw [if_pos c, if_pos c]
    have e : fsz pn = Fst (2 * pn) := (hP pn hq).2.2.1
    have hz := (rP pn hq).2
    have r1 := i_rng (n := 99) (by omega) hz
    have r2 := i_rng (n := 40) (by omega) (wear_rng (pn := pn) (fki := Fkd) (asks_rng1 (ru := ru) (Fst := Fst) (Fro := Fro) (Fmo := Fmo) (Fcd := Fcd) (Fsr := Fsr) (jn := jn) (pn := pn)))
    have r3 := i_rng (n := 1000000) (by omega) hv
    have ew : m_X0_wears pn Fkd (m_X6_asksOf ru Fst Fro Fmo Fcd Fsr 1 jn pn) = m_X6_wearsOf ru Fst Fro Fmo Fkd Fcd Fsr jn pn := rfl
    rw [ew] at r2
    have s1 := t_add (a := m_X6_wearsOf ru Fst Fro Fmo Fkd Fcd Fsr jn pn) (b := v) (by omega) (by omega)
    have s2 := t_sub (a := fsz pn) (b := m_X6_wearsOf ru Fst Fro Fmo Fkd Fcd Fsr jn pn + v) (by omega) (by omega)
    have hle : fsz pn - (m_X6_wearsOf ru Fst Fro Fmo Fkd Fcd Fsr jn pn + v) ≤ 99 := Int32.le_iff_toInt_le.mpr (by
      rw [s2, s1]
      show _ ≤ (nI 99).toInt
      rw [nI_toInt (by omega)]
      omega)
    rw [max_within hle, ← e]
    have hw9 := within_rng (x := fsz pn - (m_X6_wearsOf ru Fst Fro Fmo Fkd Fcd Fsr jn pn + v)) (n := 99) (by decide)
    refine ⟨fun p hp => ?_, fun p hp => ⟨(rP p hp).1, ?_⟩⟩
    · obtain ⟨b1, b2, b3, b4⟩ := hP p hp
      refine ⟨b1, b2, ?_, ?_⟩
      · by_cases d : p = pn
        · rw [upd_a9 d, upd_a9 (by omega)]
        · rw [upd_n9 d, upd_n9 (by omega)]; exact b3
      · rw [upd_n9 (by omega)]; exact b4
    · by_cases d : p = pn
      · rw [upd_a9 d]; exact hw9
      · rw [upd_n9 d]; exact (rP p hp).2
  · rw [if_neg c, if_neg c]; exact ⟨hP, rP⟩
theorem sole_up {x : Int32} (h : 0 ≤ x ∧ x ≤ 20) : mMin 20 (x + 1) = m_X6_within (x + 1) 0 20 ∧ (0 ≤ m_X6_within (x + 1) 0 20 ∧ m_X6_within (x + 1) 0 20 ≤ 20) := by
  have r := i_rng (n := 20) (by omega) h
  have t1 : (1 : Int32).toInt = 1 := rfl
  have e : (x + 1).toInt = x.toInt + 1 := by rw [t_add (by rw [t1]; omega) (by rw [t1]; omega), t1]
  exact ⟨min_within (Int32.le_iff_toInt_le.mpr (by rw [e, t_0]; omega)), within_rng (by decide)⟩
theorem upd3 {F : Nat → Int32} {j k : Nat} {a b c : Int32} : upd (upd (upd F (3 * j + 2) a) (3 * j + 1) b) (3 * j) c (3 * k) = (if k = j then c else F (3 * k)) ∧ upd (upd (upd F (3 * j + 2) a) (3 * j + 1) b) (3 * j) c (3 * k + 1) = (if k = j then b else F (3 * k + 1)) ∧ upd (upd (upd F (3 * j + 2) a) (3 * j + 1) b) (3 * j) c (3 * k + 2) = (if k = j then a else F (3 * k + 2)) := by
  refine ⟨?_, ?_, ?_⟩
  · by_cases d : k = j
    · rw [if_pos d, upd_a9 (by omega)]
    · rw [if_neg d, upd_n9 (by omega), upd_n9 (by omega), upd_n9 (by omega)]
  · by_cases d : k = j
    · rw [if_pos d, upd_n9 (by omega), upd_a9 (by omega)]
    · rw [if_neg d, upd_n9 (by omega), upd_n9 (by omega), upd_n9 (by omega)]
  · by_cases d : k = j
    · rw [if_pos d, upd_n9 (by omega), upd_n9 (by omega), upd_a9 (by omega)]
    · rw [if_neg d, upd_n9 (by omega), upd_n9 (by omega), upd_n9 (by omega)]
theorem upd2 {F : Nat → Int32} {j k : Nat} {b c : Int32} : upd (upd F (3 * j + 1) b) (3 * j) c (3 * k) = (if k = j then c else F (3 * k)) ∧ upd (upd F (3 * j + 1) b) (3 * j) c (3 * k + 1) = (if k = j then b else F (3 * k + 1)) ∧ upd (upd F (3 * j + 1) b) (3 * j) c (3 * k + 2) = F (3 * k + 2) := by
  refine ⟨?_, ?_, ?_⟩
  · by_cases d : k = j
    · rw [if_pos d, upd_a9 (by omega)]
    · rw [if_neg d, upd_n9 (by omega), upd_n9 (by omega)]
  · by_cases d : k = j
    · rw [if_pos d, upd_n9 (by omega), upd_a9 (by omega)]
    · rw [if_neg d, upd_n9 (by omega), upd_n9 (by omega)]
  · rw [upd_n9 (by omega), upd_n9 (by omega)]
theorem upd_if {f : Nat → Int32} {j k : Nat} {x : Int32} : upd f j x k = if k = j then x else f k := by
  by_cases d : k = j
  · rw [if_pos d, upd_a9 d]
  · rw [if_neg d, upd_n9 d]
theorem mile_J (hw : mWx fct fet) (hT : TxR fct fet Fcd Fsr ru) (hJ : CtJ fso fmi fpa Fro) (hP : CtP pb fki fmo fsz frd Fkd Fmo Fst) (rJ : RgJ fso fpa) (rP : RgP pb fmo fsz) (hj : jn < 4) (hq : pn < pb) : CtJ (m_X0_mile_n2 jn fso fmi) (upd fmi jn (fmi jn + 1)) (m_X0_mile_n4 jn pn fso fmi fpa fki fmo fsz frd fct fet) (m_X6_mile_ro ru Fst Fro Fmo Fkd Fcd Fsr jn pn) ∧ RgJ (m_X0_mile_n2 jn fso fmi) (m_X0_mile_n4 jn pn fso fmi fpa fki fmo fsz frd fct fet) := by
  obtain ⟨a1, a2, a3⟩ := hJ jn hj
  have hh := hurt_eq (ru := ru) (Fcd := Fcd) (Fsr := Fsr) hw hT hJ hP hj hq
  have hr := hurt_rng (fki := fki) (v := m_X0_says 0 jn pn fso fmi fmo fsz frd fct fet) (by rw [says_eq hw hT (by decide) hJ hP hj hq]; exact asks_rng0) rJ rP hj hq
  rw [hh] at hr
  have hs := sand_eq hP hq
  have h1 := (rJ jn hj).1
  have h2 := (rJ jn hj).2
  have hu := sole_up h1
  have r1 := i_rng (n := 99999) (by omega) h2
  have r2 := i_rng (n := 216) (by omega) hr
  have es := t_add (a := fpa jn) (b := m_X6_hurtsOf ru Fst Fro Fmo Fkd Fcd Fsr jn pn) (by omega) (by omega)
  have hp : mMin 99999 (fpa jn + m_X6_hurtsOf ru Fst Fro Fmo Fkd Fcd Fsr jn pn) = m_X6_within (fpa jn + m_X6_hurtsOf ru Fst Fro Fmo Fkd Fcd Fsr jn pn) 0 99999 := min_within (Int32.le_iff_toInt_le.mpr (by rw [es, t_0]; omega))
  have hpr := within_rng (x := fpa jn + m_X6_hurtsOf ru Fst Fro Fmo Fkd Fcd Fsr jn pn) (n := 99999) (by decide)
  unfold m_X0_mile_n2 m_X0_tread_n2 m_X0_mile_n4 m_X6_mile_ro
  rw [hs, hh, ← a1, ← a2, ← a3, hp]
  by_cases c : m_X6_isSand Fst Fkd Fmo pn = 0
  · rw [if_pos c, if_pos c]
    by_cases d : iRem (fmi jn + 1) 10 = 0
    · rw [if_pos d, if_pos d, hu.1]
      refine ⟨fun j h => ?_, fun j h => ⟨?_, ?_⟩⟩
      · obtain ⟨u1, u2, u3⟩ := upd3 (F := Fro) (j := jn) (k := j) (a := m_X6_within (fpa jn + m_X6_hurtsOf ru Fst Fro Fmo Fkd Fcd Fsr jn pn) 0 99999) (b := fmi jn + 1) (c := m_X6_within (fso jn + 1) 0 20)
        rw [u1, u2, u3, upd_if, upd_if, upd_if, (hJ j h).1, (hJ j h).2.1, (hJ j h).2.2]
        exact ⟨rfl, rfl, rfl⟩
      · rw [upd_if]; split
        · exact hu.2
        · exact (rJ j h).1
      · rw [upd_if]; split
        · exact hpr
        · exact (rJ j h).2
    · rw [if_neg d, if_neg d]
      refine ⟨fun j h => ?_, fun j h => ⟨(rJ j h).1, ?_⟩⟩
      · obtain ⟨u1, u2, u3⟩ := upd3 (F := Fro) (j := jn) (k := j) (a := m_X6_within (fpa jn + m_X6_hurtsOf ru Fst Fro Fmo Fkd Fcd Fsr jn pn) 0 99999) (b := fmi jn + 1) (c := fso jn)
        rw [u1, u2, u3, upd_if, upd_if, ← (hJ j h).1, (hJ j h).2.1, (hJ j h).2.2]
        refine ⟨?_, rfl, rfl⟩
        by_cases e : j = jn
        · rw [if_pos e, e]
        · rw [if_neg e]
      · rw [upd_if]; split
        · exact hpr
        · exact (rJ j h).2
  · rw [if_neg c, if_neg c]
    by_cases d : iRem (fmi jn + 1) 10 = 0
    · rw [if_pos d, if_pos d, hu.1]
      refine ⟨fun j h => ?_, fun j h => ⟨?_, (rJ j h).2⟩⟩
      · obtain ⟨u1, u2, u3⟩ := upd2 (F := Fro) (j := jn) (k := j) (b := fmi jn + 1) (c := m_X6_within (fso jn + 1) 0 20)
        rw [u1, u2, u3, upd_if, upd_if, (hJ j h).1, (hJ j h).2.1, (hJ j h).2.2]
        exact ⟨rfl, rfl, rfl⟩
      · rw [upd_if]; split
        · exact hu.2
        · exact (rJ j h).1
    · rw [if_neg d, if_neg d]
      refine ⟨fun j h => ?_, rJ⟩
      obtain ⟨u1, u2, u3⟩ := upd2 (F := Fro) (j := jn) (k := j) (b := fmi jn + 1) (c := fso jn)
      rw [u1, u2, u3, upd_if, ← (hJ j h).1, (hJ j h).2.1, (hJ j h).2.2]
      refine ⟨?_, rfl, rfl⟩
      by_cases e : j = jn
      · rw [if_pos e, e]
      · rw [if_neg e]
theorem go_run (hw : mWx fct fet) (hT : TxR fct fet Fcd Fsr ru) (hj : jn < 4) (hq : pn < pb) : ∀ (q i : Nat) (fe : Int32) (a b c d Ro St : Nat → Int32), CtJ a b c Ro → CtP pb fki fmo d frd Fkd Fmo St → RgJ a c → RgP pb fmo d → (p_X0_go_6 jn pn fki fmo frd fct fet q i fe a b c d).2.1 = (p_X6_caseOf_6 ru Fmo Fkd Fcd Fsr jn pn q i fe St Ro).2.1 ∧ CtJ (p_X0_go_6 jn pn fki fmo frd fct fet q i fe a b c d).2.2.1 (p_X0_go_6 jn pn fki fmo frd fct fet q i fe a b c d).2.2.2.1 (p_X0_go_6 jn pn fki fmo frd fct fet q i fe a b c d).2.2.2.2.1 (p_X6_caseOf_6 ru Fmo Fkd Fcd Fsr jn pn q i fe St Ro).2.2.2 ∧ CtP pb fki fmo (p_X0_go_6 jn pn fki fmo frd fct fet q i fe a b c d).2.2.2.2.2 frd Fkd Fmo (p_X6_caseOf_6 ru Fmo Fkd Fcd Fsr jn pn q i fe St Ro).2.2.1 ∧ RgJ (p_X0_go_6 jn pn fki fmo frd fct fet q i fe a b c d).2.2.1 (p_X0_go_6 jn pn fki fmo frd fct fet q i fe a b c d).2.2.2.2.1 ∧ RgP pb fmo (p_X0_go_6 jn pn fki fmo frd fct fet q i fe a b c d).2.2.2.2.2
  | 0, i, fe, a, b, c, d, Ro, St, hJ, hP, rJ, rP => ⟨rfl, hJ, hP, rJ, rP⟩
  | q + 1, i, fe, a, b, c, d, Ro, St, hJ, hP, rJ, rP => by
    rw [p_X0_go_6, p_X6_caseOf_6, mile_eq hw hT hJ hP hj hq]
    obtain ⟨x1, x2⟩ := mile_J hw hT hJ hP rJ rP hj hq
    obtain ⟨y1, y2⟩ := mile_P (v := 0) ⟨by decide, by decide⟩ hw hT hJ hP rP hj hq
    exact go_run hw hT hj hq q (i + 1) _ _ _ _ _ _ _ x1 y1 x2 y2
end EV
