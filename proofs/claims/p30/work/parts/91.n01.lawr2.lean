/-! wear by lots -/
theorem lN_t63 {n : Nat} (h : n < 2 ^ 63) : (lN n).toInt = (n : Int) := lg_ofNat_toInt h
theorem lRem63 {a d : Nat} (ha : a < 2 ^ 63) (h0 : 0 < d) (hd : d < 2 ^ 63) : lRem (lN a) (lN d) = lN (a % d) := by
  unfold lRem
  have e : lN a / lN d = lN (a / d) := by
    refine Int64.toInt_inj.mp ?_
    have h1 : a / d < 2 ^ 63 := Nat.lt_of_le_of_lt (Nat.div_le_self a d) ha
    rw [lg_ldiv_nonneg (by rw [lN_t63 ha]; omega) (by rw [lN_t63 hd]; omega), lN_t63 ha, lN_t63 hd, lN_t63 h1]
    rfl
  rw [e, lN_mul, lN_sub (Nat.div_mul_le_self a d)]
  congr 1
  have h := Nat.div_add_mod a d
  rw [Nat.mul_comm] at h
  omega
theorem lot_step {L mm : Nat} (hL : L < 2147483648) (hm : mm ≤ 960) : ∃ M, M < 2147483648 ∧ lRem (lN L * 48271) 2147483647 = lN M ∧ (0 ≤ (lRem (lN M) (lN (mm / 100 + 1))).toInt32 ∧ (lRem (lN M) (lN (mm / 100 + 1))).toInt32 ≤ nI 1000000) := by
  have e1 : lN L * 48271 = lN (L * 48271) := lN_mul L 48271
  have e2 : lRem (lN L * 48271) 2147483647 = lN (L * 48271 % 2147483647) := by
    rw [e1]
    exact lRem63 (d := 2147483647) (by omega) (by omega) (by omega)
  refine ⟨L * 48271 % 2147483647, by omega, e2, ?_⟩
  rw [lRem63 (by omega) (by omega) (by omega), lN_i]
  have h : L * 48271 % 2147483647 % (mm / 100 + 1) < mm / 100 + 1 := Nat.mod_lt _ (by omega)
  generalize L * 48271 % 2147483647 % (mm / 100 + 1) = k at h ⊢
  exact ⟨nI_pos' (by omega), nI_le (b := 1000000) (by omega) (by omega)⟩
section R2
variable {fct : Nat → Int32} {fet : Nat → Nat} {Fcd : Nat → Int32} {Fsr : Nat → Nat} {ru jn pn pb jg nn mm sd : Nat} {fso fmi fpa fki fmo fsz frd Fro Fkd Fmo Fst : Nat → Int32} {v0 v1 v2 v3 v4 v5 s33 : Int32}
theorem lots_run (hw : mWx fct fet) (hT : TxR fct fet Fcd Fsr ru) (hj : jn < 4) (hq : pn < pb) (hm : mm ≤ 960) : ∀ (q i L : Nat) (fe : Int32) (a b c d ro st : Nat → Int32), L < 2147483648 → CtJ a b c ro → CtP pb fki fmo d frd Fkd Fmo st → RgJ a c → RgP pb fmo d → (p_X0_goByLots_21 jn pn mm fki fmo frd fct fet q i (lN L) fe a b c d).2.2.1 = (p_X6_caseBy_18 ru Fmo Fkd Fcd Fsr jn pn mm q i (lN L) st ro fe).2.2.2.2 ∧ CtJ (p_X0_goByLots_21 jn pn mm fki fmo frd fct fet q i (lN L) fe a b c d).2.2.2.1 (p_X0_goByLots_21 jn pn mm fki fmo frd fct fet q i (lN L) fe a b c d).2.2.2.2.1 (p_X0_goByLots_21 jn pn mm fki fmo frd fct fet q i (lN L) fe a b c d).2.2.2.2.2.1 (p_X6_caseBy_18 ru Fmo Fkd Fcd Fsr jn pn mm q i (lN L) st ro fe).2.2.2.1 ∧ CtP pb fki fmo (p_X0_goByLots_21 jn pn mm fki fmo frd fct fet q i (lN L) fe a b c d).2.2.2.2.2.2 frd Fkd Fmo (p_X6_caseBy_18 ru Fmo Fkd Fcd Fsr jn pn mm q i (lN L) st ro fe).2.2.1
  | 0, i, L, fe, a, b, c, d, ro, st, hL, hJ, hP, rJ, rP => ⟨rfl, hJ, hP⟩
  | q + 1, i, L, fe, a, b, c, d, ro, st, hL, hJ, hP, rJ, rP => by
    obtain ⟨M, hM, eM, hv⟩ := lot_step (mm := mm) hL hm
    rw [p_X0_goByLots_21, p_X6_caseBy_18, mile_eq hw hT hJ hP hj hq, eM]
    obtain ⟨x1, x2⟩ := mile_J hw hT hJ hP rJ rP hj hq
    obtain ⟨y1, y2⟩ := mile_P hv hw hT hJ hP rP hj hq
    exact lots_run hw hT hj hq hm q (i + 1) M _ _ _ _ _ _ _ hM x1 y1 x2 y2
theorem lots_same (hw : mWx fct fet) (hT : TxR fct fet Fcd Fsr ru) (hJ : CtJ fso fmi fpa Fro) (hP : CtP pb fki fmo fsz frd Fkd Fmo Fst) (rJ : RgJ fso fpa) (rP : RgP pb fmo fsz) (hj : jn < 4) (hq : pn < pb) (hm : mm ≤ 960) (hs : sd ≤ 200000) : m_X0_goByLots jn pn mm fso fmi fpa fki fmo fsz frd fct fet (nI sd) = m_X6_caseBy_h031 ru Fst Fro Fmo Fkd Fcd Fsr (nI sd) jn pn mm ∧ m_X0_goByLots_n7 jn pn mm fso fmi fpa fki fmo fsz frd fct fet (nI sd) pn = m_X6_caseBy_h032 ru Fst Fro Fmo Fkd Fcd Fsr (nI sd) jn pn mm ∧ m_X0_verdict jn pn (m_X0_goByLots_n2 jn pn mm fso fmi fpa fki fmo fsz frd fct fet (nI sd)) (m_X0_goByLots_n3 jn pn mm fso fmi fpa fki fmo fsz frd fct fet (nI sd)) fmo (m_X0_goByLots_n7 jn pn mm fso fmi fpa fki fmo fsz frd fct fet (nI sd)) frd fct fet (m_X0_goByLots jn pn mm fso fmi fpa fki fmo fsz frd fct fet (nI sd)) = m_X6_caseBy_h034 ru Fst Fro Fmo Fkd Fcd Fsr (nI sd) jn pn mm := by
  have hl : (nI sd).toInt64 + 1 = lN (sd + 1) := by rw [nI_l (by omega), lN_1]
  unfold m_X0_goByLots m_X0_goByLots_n2 m_X0_goByLots_n3 m_X0_goByLots_n7 m_X6_caseBy_h031 m_X6_caseBy_h032 m_X6_caseBy_h034 g_X0_goByLots_21 g_X6_caseBy_18
  rw [hl]
  obtain ⟨e1, e2, e3⟩ := lots_run hw hT hj hq hm (mm % 100 - 0) 0 (sd + 1) 0 fso fmi fpa fsz Fro Fst (by omega) hJ hP rJ rP
  have s2 := says_eq (ru := ru) (pt := 2) hw hT (by decide) e2 e3 hj hq
  refine ⟨e1, (e3 pn hq).2.2.1, ?_⟩
  unfold m_X0_verdict
  rw [s2, e1]
theorem by_01 : (if m_X6_caseBy_h034 ru Fst Fro Fmo Fkd Fcd Fsr v1 jn pn mm = 0 then (0 : Int32) else 1) = m_X6_caseBy_h034 ru Fst Fro Fmo Fkd Fcd Fsr v1 jn pn mm := by
  unfold m_X6_caseBy_h034
  exact bit_01
theorem drawn_res (hw : mWx fct fet) (hT : TxR fct fet Fcd Fsr ru) (hJ : CtJ fso fmi fpa Fro) (hP : CtP pb fki fmo fsz frd Fkd Fmo Fst) (rJ : RgJ fso fpa) (rP : RgP pb fmo fsz) (hjg : jg ≤ 4) (hpb : pb ≤ 6) : m_X5_drawn jg pb fet fso fmi fpa fki fmo fsz frd fct v0 v1 v2 v3 v4 = m_X6_drawn pb jg ru s33 Fst Fro Fmo Fkd Fcd Fsr v0 v1 v2 v3 v4 := by
  unfold m_X5_drawn m_X6_drawn
  by_cases a : mHas jg v1 = true
  · have hj := mHas_lt (by omega) a
    by_cases b : mHas pb v2 = true
    · have hq := mHas_lt (by omega) b
      rw [if_pos a, if_pos b, if_pos (both_t a b)]
      by_cases c : 0 ≤ v0 ∧ v0 ≤ 99999
      · rw [if_pos c, if_pos c]
        have hs := nC_le (n := 99999) (by omega) c
        by_cases d : mMil v3 = true
        · rw [if_pos d, if_pos d]
          by_cases f : 0 ≤ v4 ∧ v4 ≤ 2
          · rw [if_pos f, if_pos f]
            obtain ⟨e1, e2, e3⟩ := lots_same (sd := nC v0) hw hT hJ hP rJ rP (show nC v1 < 4 by omega) hq (mMil_le d) (by omega)
            unfold m_X6_toldCase m_X5_outcome
            rw [e3, e1, e2, by_01]
            rcases v_c3 f with e | e | e <;> subst e
            · rw [c_i0]; rfl
            · rw [c_i1]; rfl
            · rw [c_i2]; rfl
          · rw [if_neg f, if_neg f]
        · rw [if_neg d, if_neg d]
      · rw [if_neg c, if_neg c]
    · rw [if_pos a, if_neg b, if_neg (both_f (fun z => b z.2))]
  · rw [if_neg a, if_neg (both_f (fun z => a z.1))]
theorem odds_run (hw : mWx fct fet) (hT : TxR fct fet Fcd Fsr ru) (hJ : CtJ fso fmi fpa Fro) (hP : CtP pb fki fmo fsz frd Fkd Fmo Fst) (rJ : RgJ fso fpa) (rP : RgP pb fmo fsz) (hj : nC v2 < 4) (hq : nC v3 < pb) (hm : nC v4 ≤ 960) (hs : nC v0 ≤ 99999) : ∀ (q k g : Nat), k + q ≤ 40 → (p_X5_odds_64 fet fso fmi fpa fki fmo fsz frd fct v0 v2 v3 v4 q k g).2 = (p_X6_odds_77 ru Fst Fro Fmo Fkd Fcd Fsr v0 v2 v3 v4 q k g).2
  | 0, k, g, h => rfl
  | q + 1, k, g, h => by
    obtain ⟨-, -, e3⟩ := lots_same (sd := nC v0 + k) hw hT hJ hP rJ rP hj hq hm (by omega)
    rw [p_X5_odds_64, p_X6_odds_77, e3]
    by_cases c : m_X6_caseBy_h034 ru Fst Fro Fmo Fkd Fcd Fsr (nI (nC v0 + k)) (nC v2) (nC v3) (nC v4) = 0
    · rw [if_pos c, c, c_i0]; exact odds_run hw hT hJ hP rJ rP hj hq hm hs q (k + 1) _ (by omega)
    · have c1 : m_X6_caseBy_h034 ru Fst Fro Fmo Fkd Fcd Fsr (nI (nC v0 + k)) (nC v2) (nC v3) (nC v4) = 1 := by rw [← by_01, if_neg c]
      rw [if_neg c, c1, c_i1]; exact odds_run hw hT hJ hP rJ rP hj hq hm hs q (k + 1) _ (by omega)
theorem odds_ub : ∀ (q k g : Nat), (p_X6_odds_77 ru Fst Fro Fmo Fkd Fcd Fsr v0 v2 v3 v4 q k g).2 ≤ g + q
  | 0, k, g => Nat.le_refl _
  | q + 1, k, g => by
    rw [p_X6_odds_77]
    split
    · exact Nat.le_trans (odds_ub q (k + 1) g) (by omega)
    · exact Nat.le_trans (odds_ub q (k + 1) (g + 1)) (by omega)
theorem low_eq {a n : Nat} (ha : a ≤ 40) (hn : n ≤ 40) (h1 : 1 ≤ n) {v : Int32} (hv : v = 0 ∨ v = 1) : (if v = 0 then lN (a / Nat.gcd a n) else lN (n / Nat.gcd a n)) = mLow a n v := by
  unfold mLow
  by_cases c : a = 0
  · subst c
    rw [if_pos (show (0 : Nat) = 0 from rfl)]
    rcases hv with e | e <;> subst e
    · rw [if_pos (show (0 : Int32) = 0 from rfl), Nat.zero_div]; decide
    · rw [if_neg (show ¬ (1 : Int32) = 0 by decide), Nat.gcd_zero_left, Nat.div_self (by omega)]; decide
  · rw [if_neg c]
    have hg : 0 < Nat.gcd a n := Nat.gcd_pos_of_pos_left n (by omega)
    have hl : Nat.gcd a n ≤ n := Nat.gcd_le_right a (by omega)
    rcases hv with e | e <;> subst e
    · rw [if_pos (show (0 : Int32) = 0 from rfl), if_pos (show (0 : Int32) = 0 from rfl), lN_div (by omega) hg (by omega)]
    · rw [if_neg (show ¬ (1 : Int32) = 0 by decide), if_neg (show ¬ (1 : Int32) = 0 by decide), lN_div (by omega) hg (by omega)]
theorem odds_res (hw : mWx fct fet) (hT : TxR fct fet Fcd Fsr ru) (hJ : CtJ fso fmi fpa Fro) (hP : CtP pb fki fmo fsz frd Fkd Fmo Fst) (rJ : RgJ fso fpa) (rP : RgP pb fmo fsz) (hjg : jg ≤ 4) (hpb : pb ≤ 6) : m_X5_odds jg pb fet fso fmi fpa fki fmo fsz frd fct v0 v1 v2 v3 v4 v5 = m_X6_odds pb jg ru Fst Fro Fmo Fkd Fcd Fsr v0 v1 v2 v3 v4 v5 := by
  unfold m_X5_odds m_X6_odds
  by_cases c : 0 ≤ v0 ∧ v0 ≤ 99999
  case neg => rw [if_neg c, if_neg c]
  rw [if_pos c, if_pos c]
  have hs := nC_le (n := 99999) (by omega) c
  by_cases n1 : v1 < 1
  · rw [if_pos n1, if_neg (show ¬ (1 ≤ v1 ∧ v1 ≤ 40) from fun z => absurd z.1 (Int32.not_le.mpr n1))]
  have p1 : 1 ≤ v1 := Int32.not_lt.mp n1
  have e0 : v1 = nI (nC v1) := nC_eq (nC_1 p1)
  rw [if_neg n1]
  by_cases n2 : 40 < nI (nC v1)
  · rw [if_pos n2, if_neg (show ¬ (1 ≤ v1 ∧ v1 ≤ 40) from fun z => by rw [← e0] at n2; exact absurd z.2 (Int32.not_le.mpr n2))]
  have p2 : v1 ≤ 40 := by rw [← e0] at n2; exact Int32.not_lt.mp n2
  rw [if_neg n2, if_pos (show 1 ≤ v1 ∧ v1 ≤ 40 from ⟨p1, p2⟩)]
  have h40 := nC_le (n := 40) (by omega) ⟨nC_1 p1, p2⟩
  by_cases f : 0 ≤ v5 ∧ v5 ≤ 1
  case neg =>
    rw [if_neg f, if_neg f]
    repeat' split
    all_goals rfl
  rw [if_pos f]
  by_cases a : mHas jg v2 = true
  case neg => rw [if_neg a, if_neg (both_f (fun z => a z.1))]
  have hj := mHas_lt (by omega) a
  rw [if_pos a]
  by_cases b : mHas pb v3 = true
  case neg => rw [if_neg b, if_neg (both_f (fun z => b z.2))]
  have hq := mHas_lt (by omega) b
  rw [if_pos b, if_pos (both_t a b)]
  by_cases d : mMil v4 = true
  case neg => rw [if_neg d, if_neg d]
  rw [if_pos d, if_pos d, if_pos f]
  have e : (g_X5_odds_64 fet fso fmi fpa fki fmo fsz frd fct v0 v1 v2 v3 v4).2 = (g_X6_odds_77 ru Fst Fro Fmo Fkd Fcd Fsr v0 v1 v2 v3 v4).2 := odds_run hw hT hJ hP rJ rP (show nC v2 < 4 by omega) hq (mMil_le d) hs (nC v1 - 0) 0 0 (by omega)
  have u : (g_X6_odds_77 ru Fst Fro Fmo Fkd Fcd Fsr v0 v1 v2 v3 v4).2 ≤ 0 + (nC v1 - 0) := odds_ub _ _ _
  rw [e]
  have hv : nI (nC v5) = 0 ∨ nI (nC v5) = 1 := by
    rcases v_c2 f with z | z <;> subst z
    · rw [c_i0]; exact Or.inl rfl
    · rw [c_i1]; exact Or.inr rfl
  exact low_eq (by omega) h40 (nC_1n p1) hv
end R2
