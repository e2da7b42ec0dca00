/-! told circuits: what refuses a sheet, the first case that is found otherwise -/
theorem a11 : (1 : Int32) &&& 1 = 1 := by decide
theorem a10 : (1 : Int32) &&& 0 = 0 := by decide
theorem a01 : (0 : Int32) &&& 1 = 0 := by decide
theorem a00 : (0 : Int32) &&& 0 = 0 := by decide
section R3
variable {fct : Nat → Int32} {fet : Nat → Nat} {Fcd : Nat → Int32} {Fsr : Nat → Nat} {ru jn pn pb jg nn sn : Nat} {fso fmi fpa fki fmo fsz frd Fro Fkd Fmo Fst fqo frr Fss Fce : Nat → Int32} {fql Fsq : Nat → Nat} {v0 v1 v2 v3 v4 v5 : Int32}
theorem sw_0 : ∀ (q i : Nat), (p_X6_sheetWrong_44 pb Fce v0 q i 0).2 = 0
  | 0, i => rfl
  | q + 1, i => by
    rw [p_X6_sheetWrong_44, a01, a00]
    repeat' split
    all_goals exact sw_0 q (i + 1)
theorem sw_q0 : ∀ (q i : Nat), (p_X6_sheetWrong_44q1 pb Fce v0 q i 0).2 = 0
  | 0, i => rfl
  | q + 1, i => by
    rw [p_X6_sheetWrong_44q1, a01, a00]
    repeat' split
    all_goals exact sw_q0 q (i + 1)
theorem rf_le : ∀ (q i : Nat), p_X5_refusalOfSheet_A_62 pb frr q i ≤ i + q
  | 0, i => Nat.le_refl _
  | q + 1, i => by
    rw [p_X5_refusalOfSheet_A_62]
    repeat' split
    all_goals first
      | exact Nat.le_trans (rf_le q (i + 1)) (by omega)
      | exact Nat.le_add_right i (q + 1)
theorem rf_ok : ∀ (q i : Nat), p_X5_refusalOfSheet_A_62 pb frr q i = i + q → ∀ k, i ≤ k → k < i + q → mHas pb (frr (3 * k)) = true
  | 0, i, h, k, h1, h2 => absurd h2 (by omega)
  | q + 1, i, h, k, h1, h2 => by
    rw [p_X5_refusalOfSheet_A_62] at h
    by_cases c1 : mHas pb (frr (3 * i)) = true
    case neg => rw [if_neg c1] at h; omega
    rw [if_pos c1] at h
    by_cases c2 : 0 ≤ frr (3 * i + 1) ∧ frr (3 * i + 1) ≤ 60
    case neg => rw [if_neg c2] at h; omega
    rw [if_pos c2] at h
    by_cases c3 : 0 ≤ frr (3 * i + 2) ∧ frr (3 * i + 2) ≤ 1
    case neg => rw [if_neg c3] at h; omega
    rw [if_pos c3] at h
    by_cases e : k = i
    · rw [e]; exact c1
    · exact rf_ok q (i + 1) (by omega) k (by omega) (by omega)
theorem rf_run (hsn : sn < 4) (hR : ∀ i, i < 40 → frr i = Fce (40 * sn + i)) : ∀ (q i : Nat), 3 * (i + q) ≤ 40 → (p_X6_sheetWrong_44q1 pb Fce (nI sn) q i 1).2 = if p_X5_refusalOfSheet_A_62 pb frr q i = i + q then 1 else 0
  | 0, i, h => (if_pos rfl).symm
  | q + 1, i, h => by
    have ne : ¬ i = i + (q + 1) := by omega
    have eq : i + (q + 1) = i + 1 + q := by omega
    have r0 := hR (3 * i) (by omega)
    have r1 : frr (3 * i + 1) = Fce (40 * sn + 3 * i + 1) := hR (3 * i + 1) (by omega)
    have r2 : frr (3 * i + 2) = Fce (40 * sn + 3 * i + 2) := hR (3 * i + 2) (by omega)
    rw [p_X6_sheetWrong_44q1, p_X5_refusalOfSheet_A_62, nC_nI (show sn < 2 ^ 31 by omega), r0, r1, r2, a11, a10]
    by_cases c1 : mHas pb (Fce (40 * sn + 3 * i)) = true
    case neg => rw [if_neg c1, if_neg c1, if_neg ne]; exact sw_q0 q (i + 1)
    rw [if_pos c1, if_pos c1]
    by_cases c2 : 0 ≤ Fce (40 * sn + 3 * i + 1) ∧ Fce (40 * sn + 3 * i + 1) ≤ 60
    case neg => rw [if_neg c2, if_neg c2, if_neg ne]; exact sw_q0 q (i + 1)
    rw [if_pos c2, if_pos c2]
    by_cases c3 : 0 ≤ Fce (40 * sn + 3 * i + 2) ∧ Fce (40 * sn + 3 * i + 2) ≤ 1
    case neg => rw [if_neg c3, if_neg c3, if_neg ne]; exact sw_q0 q (i + 1)
    rw [if_pos c3, if_pos c3, eq]
    exact rf_run hsn hR q (i + 1) (by omega)
theorem len3 {len k : Nat} (h : len ≤ 40) (h3 : nI (len % 3) = 0) (hk : k ≤ 0 + (len / 3 - 0)) : (nI len ≤ nI (3 * k + 2)) ↔ k = 0 + (len / 3 - 0) := by
  have e3 : len % 3 = 0 := nI_eq1 (a := len % 3) (b := 0) (by omega) (by omega) h3
  constructor
  · intro z
    have := nI_le1 (by omega) (by omega) z
    omega
  · intro z
    exact nI_le (by omega) (by omega)
theorem refS_eq (hsn : sn < 4) (hS : RSP fqo fql Fss Fsq) (hq : fql sn ≤ 40) (hR : ∀ i, i < 40 → frr i = Fce (40 * sn + i)) : m_X5_refusalOfSheet_A pb fql fqo frr sn = m_X6_sheetWrong pb Fss Fsq Fce (nI sn) := by
  have hs31 : sn < 2 ^ 31 := by omega
  unfold m_X5_refusalOfSheet_A m_X6_sheetWrong g_X6_sheetWrong_44q1 g_X6_sheetWrong_44 g_X5_refusalOfSheet_A_62
  rw [if_pos (sn_in hsn), nC_nI hs31, (hS sn hsn).1, ← (hS sn hsn).2]
  by_cases c1 : Fss sn = -1
  · rw [if_pos c1, if_pos c1]
  rw [if_neg c1, if_neg c1]
  by_cases c2 : nI (fql sn % 3) = 0
  · rw [if_pos c2, if_pos c2, rf_run hsn hR (fql sn / 3 - 0) 0 (by omega)]
    have l := rf_le (pb := pb) (frr := frr) (fql sn / 3 - 0) 0
    have t := len3 hq c2 l
    by_cases c3 : p_X5_refusalOfSheet_A_62 pb frr (fql sn / 3 - 0) 0 = 0 + (fql sn / 3 - 0)
    · rw [if_pos (t.mpr c3), if_pos c3]; rfl
    · rw [if_neg (fun z => c3 (t.mp z)), if_neg c3]; rfl
  · rw [if_neg c2, if_neg c2, sw_0]; rfl
theorem ref_eq (hsn : sn < 4) (hS : RSP fqo fql Fss Fsq) (hq : fql sn ≤ 40) (hR : ∀ i, i < 40 → frr i = Fce (40 * sn + i)) : m_X5_refusalOf_A jg pb fql fqo frr sn v1 = m_X6_toldWrong pb jg Fss Fsq Fce (nI sn) v1 := by
  unfold m_X5_refusalOf_A m_X6_toldWrong
  rw [refS_eq hsn hS hq hR]
/-- a sheet that isn't refused: by threes, each of a pebble -/
theorem refS_ok (hq : fql sn ≤ 40) (h : m_X5_refusalOfSheet_A pb fql fqo frr sn = 0) : fql sn % 3 = 0 ∧ ∀ k, k < fql sn / 3 → mHas pb (frr (3 * k)) = true := by
  unfold m_X5_refusalOfSheet_A g_X5_refusalOfSheet_A_62 at h
  by_cases c1 : fqo sn = -1
  · rw [if_pos c1] at h; exact absurd h (by decide)
  rw [if_neg c1] at h
  by_cases c2 : nI (fql sn % 3) = 0
  · rw [if_pos c2] at h
    have l := rf_le (pb := pb) (frr := frr) (fql sn / 3 - 0) 0
    have t := len3 hq c2 l
    by_cases c3 : nI (fql sn) ≤ nI (3 * p_X5_refusalOfSheet_A_62 pb frr (fql sn / 3 - 0) 0 + 2)
    · exact ⟨nI_eq1 (a := fql sn % 3) (b := 0) (by omega) (by omega) c2, fun k hk => rf_ok (fql sn / 3 - 0) 0 (t.mp c3) k (by omega) (by omega)⟩
    · rw [if_neg c3] at h; exact absurd h (by decide)
  · rw [if_neg c2] at h; exact absurd h (by decide)
theorem ref_ok (hq : fql sn ≤ 40) (h : m_X5_refusalOf_A jg pb fql fqo frr sn v1 = 0) : (fql sn % 3 = 0 ∧ ∀ k, k < fql sn / 3 → mHas pb (frr (3 * k)) = true) ∧ mHas jg v1 = true := by
  unfold m_X5_refusalOf_A at h
  by_cases c : m_X5_refusalOfSheet_A pb fql fqo frr sn = 0
  · rw [if_pos c] at h
    by_cases d : mHas jg v1 = true
    · exact ⟨refS_ok hq c, d⟩
    · rw [if_neg d] at h; exact absurd h (by decide)
  · rw [if_neg c] at h; exact absurd h c
theorem fo_le : ∀ (q k : Nat) (a b c d : Nat → Int32), (p_X5_firstOtherwise_13 fet fki fmo frd fct frr jn q k a b c d).1 ≤ k + q
  | 0, k, a, b, c, d => Nat.le_refl _
  | q + 1, k, a, b, c, d => by
    rw [p_X5_firstOtherwise_13]
    split
    · exact Nat.le_trans (fo_le q (k + 1) _ _ _ _) (by omega)
    · exact Nat.le_add_right k (q + 1)
theorem fo_kept : ∀ (q k : Nat) (fi : Int32) (st ro : Nat → Int32), ¬ fi = -1 → (p_X6_firstOther_9 ru Fmo Fkd Fcd Fsr Fce sn jn q k fi st ro).2.1 = fi
  | 0, k, fi, st, ro, h => rfl
  | q + 1, k, fi, st, ro, h => by
    rw [p_X6_firstOther_9, if_neg h]
theorem fo_run (hw : mWx fct fet) (hT : TxR fct fet Fcd Fsr ru) (hj : jn < 4) (hpb : pb ≤ 6) (hR : ∀ i, i < 40 → frr i = Fce (40 * sn + i)) : ∀ (q k : Nat) (a b c d ro st : Nat → Int32), 3 * (k + q) ≤ 40 → (∀ i, k ≤ i → i < k + q → mHas pb (frr (3 * i)) = true) → CtJ a b c ro → CtP pb fki fmo d frd Fkd Fmo st → RgJ a c → RgP pb fmo d → (p_X6_firstOther_9 ru Fmo Fkd Fcd Fsr Fce sn jn q k (-1) st ro).2.1 = if (p_X5_firstOtherwise_13 fet fki fmo frd fct frr jn q k a b c d).1 = k + q then -1 else nI (p_X5_firstOtherwise_13 fet fki fmo frd fct frr jn q k a b c d).1
  | 0, k, a, b, c, d, ro, st, h, hok, hJ, hP, rJ, rP => (if_pos rfl).symm
  | q + 1, k, a, b, c, d, ro, st, h, hok, hJ, hP, rJ, rP => by
    have hq : nC (frr (3 * k)) < pb := mHas_lt (by omega) (hok k (by omega) (by omega))
    obtain ⟨g1, g2, g3, g4, g5⟩ := go_same (nn := nC (frr (3 * k + 1))) hw hT hJ hP rJ rP hj hq
    have hv := heard_eq (nn := nC (frr (3 * k + 1))) hw hT hJ hP rJ rP hj hq
    have r0 := hR (3 * k) (by omega)
    have r1 : frr (3 * k + 1) = Fce (40 * sn + 3 * k + 1) := hR (3 * k + 1) (by omega)
    have r2 : frr (3 * k + 2) = Fce (40 * sn + 3 * k + 2) := hR (3 * k + 2) (by omega)
    have ne : ¬ k = k + (q + 1) := by omega
    have eq : k + (q + 1) = k + 1 + q := by omega
    rw [p_X6_firstOther_9, p_X5_firstOtherwise_13, if_pos (show (-1 : Int32) = -1 from rfl), hv, ← r0, ← r1, ← r2]
    unfold m_X6_heard_h034
    by_cases c9 : m_X6_caseOf ru st ro Fmo Fkd Fcd Fsr jn (nC (frr (3 * k))) (nC (frr (3 * k + 1))) < m_X6_asksOf ru (m_X6_caseOf_st ru st ro Fmo Fkd Fcd Fsr jn (nC (frr (3 * k))) (nC (frr (3 * k + 1)))) (m_X6_caseOf_ro ru st ro Fmo Fkd Fcd Fsr jn (nC (frr (3 * k))) (nC (frr (3 * k + 1)))) Fmo Fcd Fsr 2 jn (nC (frr (3 * k)))
    · rw [if_pos c9, if_pos c9]
      by_cases e : 0 = frr (3 * k + 2)
      · rw [if_pos e, if_pos e, eq]
        exact fo_run hw hT hj hpb hR q (k + 1) _ _ _ _ _ _ (by omega) (fun i h1 h2 => hok i (by omega) (by omega)) g2 g3 g4 g5
      · rw [if_neg e, if_neg e]
        refine Eq.trans ?_ (if_neg ne).symm
        exact fo_kept q _ _ _ _ (nI_nn (by omega))
    · rw [if_neg c9, if_neg c9]
      by_cases e : 1 = frr (3 * k + 2)
      · rw [if_pos e, if_pos e, eq]
        exact fo_run hw hT hj hpb hR q (k + 1) _ _ _ _ _ _ (by omega) (fun i h1 h2 => hok i (by omega) (by omega)) g2 g3 g4 g5
      · rw [if_neg e, if_neg e]
        refine Eq.trans ?_ (if_neg ne).symm
        exact fo_kept q _ _ _ _ (nI_nn (by omega))
theorem fo_eq (hw : mWx fct fet) (hT : TxR fct fet Fcd Fsr ru) (hJ : CtJ fso fmi fpa Fro) (hP : CtP pb fki fmo fsz frd Fkd Fmo Fst) (rJ : RgJ fso fpa) (rP : RgP pb fmo fsz) (hj : jn < 4) (hpb : pb ≤ 6) (hl : fql sn = Fsq sn) (hq : fql sn ≤ 40) (hR : ∀ i, i < 40 → frr i = Fce (40 * sn + i)) (hok : fql sn % 3 = 0 ∧ ∀ k, k < fql sn / 3 → mHas pb (frr (3 * k)) = true) : m_X5_firstOtherwise fet fql fso fmi fpa fki fmo fsz frd fct frr sn jn = m_X6_firstOther ru Fst Fro Fmo Fkd Fcd Fsr Fsq Fce sn jn := by
  unfold m_X5_firstOtherwise m_X6_firstOther g_X5_firstOtherwise_13 g_X6_firstOther_9
  have e := fo_run hw hT hj hpb hR (fql sn / 3 - 0) 0 fso fmi fpa fsz Fro Fst (by omega) (fun i _ h2 => hok.2 i (by omega)) hJ hP rJ rP
  have l := fo_le (fet := fet) (fki := fki) (fmo := fmo) (frd := frd) (fct := fct) (frr := frr) (jn := jn) (fql sn / 3 - 0) 0 fso fmi fpa fsz
  rw [← hl]
  refine Eq.trans ?_ e.symm
  have t := len3 hq (show nI (fql sn % 3) = 0 by rw [hok.1]; rfl) l
  generalize (p_X5_firstOtherwise_13 fet fki fmo frd fct frr jn (fql sn / 3 - 0) 0 fso fmi fpa fsz).1 = k at l t ⊢
  by_cases c : k = 0 + (fql sn / 3 - 0)
  · rw [if_pos (t.mpr c), if_pos c]
  · rw [if_neg (fun z => c (t.mp z)), if_neg c, Nat.mul_div_cancel_left k (by omega)]
end R3
section R4
variable {fct : Nat → Int32} {fet : Nat → Nat} {Fcd : Nat → Int32} {Fsr : Nat → Nat} {ru jn pn pb jg nn sn tx : Nat} {fso fmi fpa fki fmo fsz frd Fro Fkd Fmo Fst fqo frr Fss Fce : Nat → Int32} {fql Fsq : Nat → Nat} {v0 v1 v2 v3 v4 v5 : Int32}
theorem reversed_res (hw : mWx fct fet) (hT : TxR fct fet Fcd Fsr ru) (hJ : CtJ fso fmi fpa Fro) (hP : CtP pb fki fmo fsz frd Fkd Fmo Fst) (rJ : RgJ fso fpa) (rP : RgP pb fmo fsz) (hjg : jg ≤ 4) (hpb : pb ≤ 6) (hsn : sn < 4) (hS : RSP fqo fql Fss Fsq) (hq : ∀ q9, q9 < 4 → fql q9 ≤ 40) (hR : ∀ i, i < 40 → frr i = Fce (40 * sn + i)) : m_X5_reversed_A jg pb fet fql fso fmi fpa fki fmo fsz frd fct fqo frr sn v1 = m_X6_reversed pb jg ru Fst Fro Fmo Fkd Fcd Fsr Fsq Fce Fss (nI sn) v1 := by
  unfold m_X5_reversed_A m_X6_reversed
  rw [← ref_eq (jg := jg) (v1 := v1) (pb := pb) hsn hS (hq sn hsn) hR]
  by_cases c : m_X5_refusalOf_A jg pb fql fqo frr sn v1 = 0
  · obtain ⟨ok, hm⟩ := ref_ok (hq sn hsn) c
    have hj := mHas_lt (by omega) hm
    rw [if_pos c, if_pos c, nC_nI (show sn < 2 ^ 31 by omega)]
    exact fo_eq hw hT hJ hP rJ rP (by omega) hpb (hS sn hsn).2 (hq sn hsn) hR ok
  · rw [if_neg c, if_neg c]
theorem soled_run (hw : mWx fct fet) (hT : TxR fct fet Fcd Fsr ru) (hJ : CtJ fso fmi fpa Fro) (hP : CtP pb fki fmo fsz frd Fkd Fmo Fst) (rJ : RgJ fso fpa) (rP : RgP pb fmo fsz) (hj : nC v1 < 4) (hpb : pb ≤ 6) (hsn : sn < 4) (hl : fql sn = Fsq sn) (hq : fql sn ≤ 40) (hR : ∀ i, i < 40 → frr i = Fce (40 * sn + i)) (hok : fql sn % 3 = 0 ∧ ∀ k, k < fql sn / 3 → mHas pb (frr (3 * k)) = true) : ∀ (q w : Nat) (bi : Int32) (ro : Nat → Int32), w + q ≤ 21 → (∀ i, ¬ i = 3 * nC v1 → ro i = Fro i) → (p_X5_soled_A_19 fet fql fso fmi fpa fki fmo fsz frd fct frr sn v1 q w bi).2 = (p_X6_soled_29 ru Fst Fmo Fkd Fcd Fsr Fsq Fce (nI sn) v1 q w bi ro).2.1
  | 0, w, bi, ro, h, hr => rfl
  | q + 1, w, bi, ro, h, hr => by
    obtain ⟨x1, x2⟩ := sole_J (j := nC v1) (w := w) hJ rJ hr (by omega)
    rw [p_X5_soled_A_19, p_X6_soled_29, nC_nI (show sn < 2 ^ 31 by omega), fo_eq hw hT x1 hP x2 rP hj hpb hl hq hR hok, Int32.or_zero]
    split
    · exact soled_run hw hT hJ hP rJ rP hj hpb hsn hl hq hR hok q (w + 1) _ _ (by omega) (fun i hi => by rw [upd_n9 hi]; exact hr i hi)
    · exact soled_run hw hT hJ hP rJ rP hj hpb hsn hl hq hR hok q (w + 1) _ _ (by omega) (fun i hi => by rw [upd_n9 hi]; exact hr i hi)
theorem soled_res (hw : mWx fct fet) (hT : TxR fct fet Fcd Fsr ru) (hJ : CtJ fso fmi fpa Fro) (hP : CtP pb fki fmo fsz frd Fkd Fmo Fst) (rJ : RgJ fso fpa) (rP : RgP pb fmo fsz) (hjg : jg ≤ 4) (hpb : pb ≤ 6) (hsn : sn < 4) (hS : RSP fqo fql Fss Fsq) (hq : ∀ q9, q9 < 4 → fql q9 ≤ 40) (hR : ∀ i, i < 40 → frr i = Fce (40 * sn + i)) : m_X5_soled_A jg pb fet fql fso fmi fpa fki fmo fsz frd fct fqo frr sn v1 = m_X6_soled pb jg ru Fst Fro Fmo Fkd Fcd Fsr Fsq Fce Fss (nI sn) v1 := by
  unfold m_X5_soled_A m_X6_soled
  rw [← ref_eq (jg := jg) (v1 := v1) (pb := pb) hsn hS (hq sn hsn) hR]
  by_cases c : m_X5_refusalOf_A jg pb fql fqo frr sn v1 = 0
  · obtain ⟨ok, hm⟩ := ref_ok (hq sn hsn) c
    have hj := mHas_lt (by omega) hm
    rw [if_pos c, if_pos c]
    exact soled_run hw hT hJ hP rJ rP (by omega) hpb hsn (hS sn hsn).2 (hq sn hsn) hR ok (21 - 0) 0 0 Fro (by omega) (fun i _ => rfl)
  · rw [if_neg c, if_neg c]
theorem whose_run (hw : mWx fct fet) (hT : TxR fct fet Fcd Fsr ru) (hJ : CtJ fso fmi fpa Fro) (hP : CtP pb fki fmo fsz frd Fkd Fmo Fst) (rJ : RgJ fso fpa) (rP : RgP pb fmo fsz) (hpb : pb ≤ 6) (hsn : sn < 4) (hl : fql sn = Fsq sn) (hq : fql sn ≤ 40) (hR : ∀ i, i < 40 → frr i = Fce (40 * sn + i)) (hok : fql sn % 3 = 0 ∧ ∀ k, k < fql sn / 3 → mHas pb (frr (3 * k)) = true) : ∀ (q j : Nat) (bi : Int32), j + q ≤ 4 → (p_X5_whose_A_17 fet fql fso fmi fpa fki fmo fsz frd fct frr sn q j bi).2 = (p_X6_whose_17 ru Fst Fro Fmo Fkd Fcd Fsr Fsq Fce (nI sn) q j bi).2
  | 0, j, bi, h => rfl
  | q + 1, j, bi, h => by
    rw [p_X5_whose_A_17, p_X6_whose_17, nC_nI (show sn < 2 ^ 31 by omega), fo_eq hw hT hJ hP rJ rP (show j < 4 by omega) hpb hl hq hR hok, Int32.or_zero]
    split
    · exact whose_run hw hT hJ hP rJ rP hpb hsn hl hq hR hok q (j + 1) _ (by omega)
    · exact whose_run hw hT hJ hP rJ rP hpb hsn hl hq hR hok q (j + 1) _ (by omega)
theorem whose_res (hw : mWx fct fet) (hT : TxR fct fet Fcd Fsr ru) (hJ : CtJ fso fmi fpa Fro) (hP : CtP pb fki fmo fsz frd Fkd Fmo Fst) (rJ : RgJ fso fpa) (rP : RgP pb fmo fsz) (hjg : jg ≤ 4) (hpb : pb ≤ 6) (hsn : sn < 4) (hS : RSP fqo fql Fss Fsq) (hq : ∀ q9, q9 < 4 → fql q9 ≤ 40) (hR : ∀ i, i < 40 → frr i = Fce (40 * sn + i)) : m_X5_whose_A jg pb fet fql fso fmi fpa fki fmo fsz frd fct fqo frr sn = m_X6_whose pb jg ru Fst Fro Fmo Fkd Fcd Fsr Fsq Fce Fss (nI sn) := by
  unfold m_X5_whose_A m_X6_whose
  rw [← refS_eq (pb := pb) hsn hS (hq sn hsn) hR]
  by_cases c : m_X5_refusalOfSheet_A pb fql fqo frr sn = 0
  · rw [if_pos c, if_pos c]
    exact whose_run hw hT hJ hP rJ rP hpb hsn (hS sn hsn).2 (hq sn hsn) hR (refS_ok (hq sn hsn) c) (jg - 0) 0 0 (by omega)
  · rw [if_neg c, if_neg c]
/-- another kind, or more: the courts are still alike -/
theorem kind_P {kd mo : Nat → Int32} {p w : Nat} (hP : CtP pb fki fmo fsz frd Fkd Fmo Fst) (hk : ∀ i, ¬ i = p → kd i = Fkd i) (hm : ∀ i, ¬ i = p → mo i = Fmo i) : CtP pb (upd fki p (nI w)) fmo fsz frd (upd kd p (nI w)) (upd mo p (Fmo p)) Fst := by
  intro i hi
  obtain ⟨x1, x2, x3, x4⟩ := hP i hi
  by_cases e : i = p
  · rw [upd_a9 e, upd_a9 e, upd_a9 e, ← e]; exact ⟨rfl, x2, x3, x4⟩
  · rw [upd_n9 e, upd_n9 e, upd_n9 e, hk i e, hm i e]; exact ⟨x1, x2, x3, x4⟩
theorem more_P {kd mo : Nat → Int32} {p w : Nat} (hP : CtP pb fki fmo fsz frd Fkd Fmo Fst) (rP : RgP pb fmo fsz) (hw : w ≤ 9) (hk : ∀ i, ¬ i = p → kd i = Fkd i) (hm : ∀ i, ¬ i = p → mo i = Fmo i) : CtP pb fki (upd fmo p (nI w)) fsz frd (upd kd p (Fkd p)) (upd mo p (nI w)) Fst ∧ RgP pb (upd fmo p (nI w)) fsz := by
  refine ⟨fun i hi => ?_, fun i hi => ⟨?_, (rP i hi).2⟩⟩
  · obtain ⟨x1, x2, x3, x4⟩ := hP i hi
    by_cases e : i = p
    · rw [upd_a9 e, upd_a9 e, upd_a9 e, ← e]; exact ⟨x1, rfl, x3, x4⟩
    · rw [upd_n9 e, upd_n9 e, upd_n9 e, hk i e, hm i e]; exact ⟨x1, x2, x3, x4⟩
  · by_cases e : i = p
    · rw [upd_a9 e]; exact ⟨nI_pos' (by omega), nI_le (b := 9) hw (by omega)⟩
    · rw [upd_n9 e]; exact (rP i hi).1
theorem kinds_run (hw : mWx fct fet) (hT : TxR fct fet Fcd Fsr ru) (hJ : CtJ fso fmi fpa Fro) (hP : CtP pb fki fmo fsz frd Fkd Fmo Fst) (rJ : RgJ fso fpa) (rP : RgP pb fmo fsz) (hj : nC v1 < 4) (hpb : pb ≤ 6) (hsn : sn < 4) (hl : fql sn = Fsq sn) (hq : fql sn ≤ 40) (hR : ∀ i, i < 40 → frr i = Fce (40 * sn + i)) (hok : fql sn % 3 = 0 ∧ ∀ k, k < fql sn / 3 → mHas pb (frr (3 * k)) = true) : ∀ (q w : Nat) (bi : Int32) (kd mo : Nat → Int32), (∀ i, ¬ i = nC v2 → kd i = Fkd i) → (∀ i, ¬ i = nC v2 → mo i = Fmo i) → (p_X5_kinds_A_85q1 fet fql fso fmi fpa fki fmo fsz frd fct frr sn v1 v2 q w bi).2 = (p_X6_kinds_62 ru Fst Fro Fmo Fcd Fsr Fsq Fce (nI sn) v1 v2 q w bi kd mo).2.1
  | 0, w, bi, kd, mo, hk, hm => rfl
  | q + 1, w, bi, kd, mo, hk, hm => by
    rw [p_X5_kinds_A_85q1, p_X6_kinds_62, nC_nI (show sn < 2 ^ 31 by omega), fo_eq hw hT hJ (kind_P (w := w) hP hk hm) rJ rP hj hpb hl hq hR hok, Int32.or_zero]
    split
    · exact kinds_run hw hT hJ hP rJ rP hj hpb hsn hl hq hR hok q (w + 1) _ _ _ (fun i hi => by rw [upd_n9 hi]; exact hk i hi) (fun i hi => by rw [upd_n9 hi]; exact hm i hi)
    · exact kinds_run hw hT hJ hP rJ rP hj hpb hsn hl hq hR hok q (w + 1) _ _ _ (fun i hi => by rw [upd_n9 hi]; exact hk i hi) (fun i hi => by rw [upd_n9 hi]; exact hm i hi)
theorem mores_run (hw : mWx fct fet) (hT : TxR fct fet Fcd Fsr ru) (hJ : CtJ fso fmi fpa Fro) (hP : CtP pb fki fmo fsz frd Fkd Fmo Fst) (rJ : RgJ fso fpa) (rP : RgP pb fmo fsz) (hj : nC v1 < 4) (hpb : pb ≤ 6) (hsn : sn < 4) (hl : fql sn = Fsq sn) (hq : fql sn ≤ 40) (hR : ∀ i, i < 40 → frr i = Fce (40 * sn + i)) (hok : fql sn % 3 = 0 ∧ ∀ k, k < fql sn / 3 → mHas pb (frr (3 * k)) = true) : ∀ (q w : Nat) (bi : Int32) (kd mo : Nat → Int32), w + q ≤ 10 → (∀ i, ¬ i = nC v2 → kd i = Fkd i) → (∀ i, ¬ i = nC v2 → mo i = Fmo i) → (p_X5_kinds_A_85 fet fql fso fmi fpa fki fmo fsz frd fct frr sn v1 v2 q w bi).2 = (p_X6_kinds_62q1 ru Fst Fro Fkd Fcd Fsr Fsq Fce (nI sn) v1 v2 q w bi kd mo).2.1
  | 0, w, bi, kd, mo, h, hk, hm => rfl
  | q + 1, w, bi, kd, mo, h, hk, hm => by
    obtain ⟨x1, x2⟩ := more_P (p := nC v2) (w := w) hP rP (by omega) hk hm
    rw [p_X5_kinds_A_85, p_X6_kinds_62q1, nC_nI (show sn < 2 ^ 31 by omega), fo_eq hw hT hJ x1 rJ x2 hj hpb hl hq hR hok, Int32.or_zero]
    split
    · exact mores_run hw hT hJ hP rJ rP hj hpb hsn hl hq hR hok q (w + 1) _ _ _ (by omega) (fun i hi => by rw [upd_n9 hi]; exact hk i hi) (fun i hi => by rw [upd_n9 hi]; exact hm i hi)
    · exact mores_run hw hT hJ hP rJ rP hj hpb hsn hl hq hR hok q (w + 1) _ _ _ (by omega) (fun i hi => by rw [upd_n9 hi]; exact hk i hi) (fun i hi => by rw [upd_n9 hi]; exact hm i hi)
theorem kinds_res (hw : mWx fct fet) (hT : TxR fct fet Fcd Fsr ru) (hJ : CtJ fso fmi fpa Fro) (hP : CtP pb fki fmo fsz frd Fkd Fmo Fst) (rJ : RgJ fso fpa) (rP : RgP pb fmo fsz) (hjg : jg ≤ 4) (hpb : pb ≤ 6) (hsn : sn < 4) (hS : RSP fqo fql Fss Fsq) (hq : ∀ q9, q9 < 4 → fql q9 ≤ 40) (hR : ∀ i, i < 40 → frr i = Fce (40 * sn + i)) : m_X5_kinds_A jg pb fet fql fso fmi fpa fki fmo fsz frd fct fqo frr sn v1 v2 v3 = m_X6_kinds pb jg ru Fst Fro Fmo Fkd Fcd Fsr Fsq Fce Fss (nI sn) v1 v2 v3 := by
  unfold m_X5_kinds_A m_X6_kinds
  rw [← ref_eq (jg := jg) (v1 := v1) (pb := pb) hsn hS (hq sn hsn) hR]
  by_cases c : m_X5_refusalOf_A jg pb fql fqo frr sn v1 = 0
  · obtain ⟨ok, hm⟩ := ref_ok (hq sn hsn) c
    have hj := mHas_lt (by omega) hm
    rw [if_pos c, if_pos c]
    by_cases b : mHas pb v2 = true
    · rw [if_pos b, if_pos b]
      by_cases d : 0 ≤ v3 ∧ v3 ≤ 1
      · rw [if_pos d, if_pos d]
        rcases v_c2 d with e | e <;> subst e
        · rw [c_i0, if_pos (show nI 0 = 0 from rfl), if_pos (show (0 : Nat) = 0 from rfl)]
          exact kinds_run hw hT hJ hP rJ rP (by omega) hpb hsn (hS sn hsn).2 (hq sn hsn) hR ok (6 - 0) 0 0 Fkd Fmo (fun i _ => rfl) (fun i _ => rfl)
        · rw [c_i1, if_neg (show ¬ nI 1 = 0 by decide), if_neg (show ¬ (1 : Nat) = 0 by decide)]
          exact mores_run hw hT hJ hP rJ rP (by omega) hpb hsn (hS sn hsn).2 (hq sn hsn) hR ok (10 - 0) 0 0 Fkd Fmo (by omega) (fun i _ => rfl) (fun i _ => rfl)
      · rw [if_neg d, if_neg d]
    · rw [if_neg b, if_neg b]
  · rw [if_neg c, if_neg c]
end R4
