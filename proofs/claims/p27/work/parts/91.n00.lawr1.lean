/-! what judges find, one by one: a case heard in thought; sand; the soles that are enough; the hardest -/
theorem nI_nn {n : Nat} (h : n < 2 ^ 31) : ¬ nI n = -1 := fun z => by
  have a := congrArg Int32.toInt z
  rw [nI_toInt h] at a
  have b : (-1 : Int32).toInt = -1 := by decide
  rw [b] at a
  omega
section R1
variable {fct : Nat → Int32} {fet : Nat → Nat} {Fcd : Nat → Int32} {Fsr : Nat → Nat} {ru jn pn pb jg nn : Nat} {fso fmi fpa fki fmo fsz frd Fro Fkd Fmo Fst Fgb : Nat → Int32} {v0 v1 v2 v3 v4 v5 : Int32}
theorem heard_eq (hw : mWx fct fet) (hT : TxR fct fet Fcd Fsr ru) (hJ : CtJ fso fmi fpa Fro) (hP : CtP pb fki fmo fsz frd Fkd Fmo Fst) (rJ : RgJ fso fpa) (rP : RgP pb fmo fsz) (hj : jn < 4) (hq : pn < pb) : m_X0_verdict jn pn (m_X0_go_n2 jn pn nn fso fmi fpa fki fmo fsz frd fct fet) (m_X0_go_n3 jn pn nn fso fmi fpa fki fmo fsz frd fct fet) fmo (m_X0_go_n7 jn pn nn fso fmi fpa fki fmo fsz frd fct fet) frd fct fet (m_X0_go jn pn nn fso fmi fpa fki fmo fsz frd fct fet) = m_X6_heard_h034 ru Fst Fro Fmo Fkd Fcd Fsr jn pn nn := by
  obtain ⟨g1, g2, g3, g4, g5⟩ := go_same (nn := nn) hw hT hJ hP rJ rP hj hq
  have s2 := says_eq (ru := ru) (pt := 2) hw hT (by decide) g2 g3 hj hq
  unfold m_X0_verdict m_X6_heard_h034
  rw [g1, s2]
theorem heard_1 (h : ¬ m_X6_heard_h034 ru Fst Fro Fmo Fkd Fcd Fsr jn pn nn = 0) : m_X6_heard_h034 ru Fst Fro Fmo Fkd Fcd Fsr jn pn nn = 1 := by
  unfold m_X6_heard_h034 at h ⊢
  by_cases c : m_X6_caseOf ru Fst Fro Fmo Fkd Fcd Fsr jn pn nn < m_X6_asksOf ru (m_X6_caseOf_st ru Fst Fro Fmo Fkd Fcd Fsr jn pn nn) (m_X6_caseOf_ro ru Fst Fro Fmo Fkd Fcd Fsr jn pn nn) Fmo Fcd Fsr 2 jn pn
  · rw [if_pos c] at h; exact absurd rfl h
  · rw [if_neg c]
theorem sand_le : ∀ (q n : Nat) (a b c d : Nat → Int32), (p_X5_sand_21 fet fki fmo frd fct v0 v1 q n a b c d).1 ≤ n + q
  | 0, n, a, b, c, d => Nat.le_refl _
  | q + 1, n, a, b, c, d => by
    rw [p_X5_sand_21]
    split
    · exact Nat.le_trans (sand_le q (n + 1) _ _ _ _) (by omega)
    · exact Nat.le_add_right n (q + 1)
theorem tm_kept : ∀ (q n : Nat) (fe sa : Int32) (gb ro st : Nat → Int32), ¬ sa = -1 → (p_X6_tellsMiles_12 ru Fmo Fkd Fcd Fsr jn pn q n fe sa gb ro st).2.2.1 = sa
  | 0, n, fe, sa, gb, ro, st, h => rfl
  | q + 1, n, fe, sa, gb, ro, st, h => by
    rw [p_X6_tellsMiles_12]
    simp only [if_neg h]
    split
    · exact tm_kept q _ _ _ _ _ _ h
    · exact tm_kept q _ _ _ _ _ _ h
theorem sand_run (hw : mWx fct fet) (hT : TxR fct fet Fcd Fsr ru) (hj : nC v0 < 4) (hq : nC v1 < pb) : ∀ (q n : Nat) (fe : Int32) (gb a b c d ro st : Nat → Int32), n + q ≤ 61 → CtJ a b c ro → CtP pb fki fmo d frd Fkd Fmo st → RgJ a c → RgP pb fmo d → (p_X6_tellsMiles_12 ru Fmo Fkd Fcd Fsr (nC v0) (nC v1) q n fe (-1) gb ro st).2.2.1 = if (p_X5_sand_21 fet fki fmo frd fct v0 v1 q n a b c d).1 = n + q then -1 else nI (p_X5_sand_21 fet fki fmo frd fct v0 v1 q n a b c d).1
  | 0, n, fe, gb, a, b, c, d, ro, st, h61, hJ, hP, rJ, rP => (if_pos rfl).symm
  | q + 1, n, fe, gb, a, b, c, d, ro, st, h61, hJ, hP, rJ, rP => by
    rw [p_X5_sand_21, p_X6_tellsMiles_12, sand_eq hP hq]
    obtain ⟨x1, x2⟩ := mile_J hw hT hJ hP rJ rP hj hq
    obtain ⟨y1, y2⟩ := mile_P (v := 0) ⟨by decide, by decide⟩ hw hT hJ hP rP hj hq
    simp only [if_pos (show (-1 : Int32) = -1 from rfl)]
    by_cases s : m_X6_isSand st Fkd Fmo (nC v1) = 0
    · simp only [if_pos s]
      have e : n + (q + 1) = n + 1 + q := by omega
      rw [e]
      split
      · exact sand_run hw hT hj hq q (n + 1) _ _ _ _ _ _ _ _ (by omega) x1 y1 x2 y2
      · exact sand_run hw hT hj hq q (n + 1) _ _ _ _ _ _ _ _ (by omega) x1 y1 x2 y2
    · simp only [if_neg s]
      refine Eq.trans ?_ (if_neg (show ¬ n = n + (q + 1) by omega)).symm
      split
      · exact tm_kept q _ _ _ _ _ _ (nI_nn (by omega))
      · exact tm_kept q _ _ _ _ _ _ (nI_nn (by omega))
theorem sand_res (hw : mWx fct fet) (hT : TxR fct fet Fcd Fsr ru) (hJ : CtJ fso fmi fpa Fro) (hP : CtP pb fki fmo fsz frd Fkd Fmo Fst) (rJ : RgJ fso fpa) (rP : RgP pb fmo fsz) (hjg : jg ≤ 4) (hpb : pb ≤ 6) : m_X5_sand jg pb fet fso fmi fpa fki fmo fsz frd fct v0 v1 = m_X6_sand pb jg ru Fst Fro Fmo Fkd Fcd Fsr Fgb v0 v1 := by
  unfold m_X5_sand m_X6_sand
  by_cases a : mHas jg v0 = true
  · have hj := mHas_lt (by omega) a
    by_cases b : mHas pb v1 = true
    · have hq := mHas_lt (by omega) b
      rw [if_pos a, if_pos b, if_pos (both_t a b)]
      have e := sand_run (v0 := v0) hw hT (show nC v0 < 4 by omega) hq 61 0 0 Fgb fso fmi fpa fsz Fro Fst (by omega) hJ hP rJ rP
      have l := sand_le (fet := fet) (fki := fki) (fmo := fmo) (frd := frd) (fct := fct) (v0 := v0) (v1 := v1) 61 0 fso fmi fpa fsz
      unfold m_X6_tellsMiles g_X6_tellsMiles_12 g_X5_sand_21
      refine Eq.trans ?_ e.symm
      change (if (60 : Int32) < nI (p_X5_sand_21 fet fki fmo frd fct v0 v1 61 0 fso fmi fpa fsz).1 then (-1 : Int32) else nI (p_X5_sand_21 fet fki fmo frd fct v0 v1 61 0 fso fmi fpa fsz).1) = _
      generalize (p_X5_sand_21 fet fki fmo frd fct v0 v1 61 0 fso fmi fpa fsz).1 = k at l ⊢
      rcases Nat.lt_or_ge k 61 with h | h
      · rw [if_neg (show ¬ (60 : Int32) < nI k from fun z => absurd (nI_lt1 (a := 60) (b := k) (by omega) (by omega) z) (by omega)), if_neg (show ¬ k = 0 + 61 by omega)]
      · have e : k = 61 := by omega
        subst e
        rw [if_pos (show (60 : Int32) < nI 61 by decide), if_pos (show 61 = 0 + 61 from rfl)]
    · rw [if_pos a, if_neg b, if_neg (both_f (fun z => b z.2))]
  · rw [if_neg a, if_neg (both_f (fun z => a z.1))]
theorem sole_J {j w : Nat} {ro : Nat → Int32} (hJ : CtJ fso fmi fpa Fro) (rJ : RgJ fso fpa) (hr : ∀ i, ¬ i = 3 * j → ro i = Fro i) (hw : w ≤ 20) : CtJ (upd fso j (nI w)) fmi fpa (upd ro (3 * j) (nI w)) ∧ RgJ (upd fso j (nI w)) fpa := by
  refine ⟨fun k h => ?_, fun k h => ⟨?_, (rJ k h).2⟩⟩
  · obtain ⟨x1, x2, x3⟩ := hJ k h
    rw [upd_n9 (show ¬ 3 * k + 1 = 3 * j by omega), upd_n9 (show ¬ 3 * k + 2 = 3 * j by omega), hr (3 * k + 1) (by omega), hr (3 * k + 2) (by omega)]
    refine ⟨?_, x2, x3⟩
    by_cases e : k = j
    · rw [upd_a9 e, upd_a9 (by omega)]
    · rw [upd_n9 e, upd_n9 (by omega), hr (3 * k) (by omega)]; exact x1
  · by_cases e : k = j
    · rw [upd_a9 e]; exact ⟨nI_pos' (by omega), nI_le (b := 20) hw (by omega)⟩
    · rw [upd_n9 e]; exact (rJ k h).1
theorem thick_le : ∀ (q w : Nat), p_X5_thick_30 fet fso fmi fpa fki fmo fsz frd fct v0 v1 v2 q w ≤ w + q
  | 0, w => Nat.le_refl _
  | q + 1, w => by
    rw [p_X5_thick_30]
    split
    · exact Nat.le_add_right w (q + 1)
    · exact Nat.le_trans (thick_le q (w + 1)) (by omega)
theorem thick_kept : ∀ (q w : Nat) (be : Int32) (ro : Nat → Int32), ¬ be = -1 → (p_X6_thick_45 ru Fst Fmo Fkd Fcd Fsr v0 v1 v2 q w be ro).2.1 = be
  | 0, w, be, ro, h => rfl
  | q + 1, w, be, ro, h => by
    rw [p_X6_thick_45, if_neg h]
theorem thick_run (hw : mWx fct fet) (hT : TxR fct fet Fcd Fsr ru) (hJ : CtJ fso fmi fpa Fro) (hP : CtP pb fki fmo fsz frd Fkd Fmo Fst) (rJ : RgJ fso fpa) (rP : RgP pb fmo fsz) (hj : nC v0 < 4) (hq : nC v1 < pb) : ∀ (q w : Nat) (ro : Nat → Int32), w + q ≤ 21 → (∀ i, ¬ i = 3 * nC v0 → ro i = Fro i) → (p_X6_thick_45 ru Fst Fmo Fkd Fcd Fsr v0 v1 v2 q w (-1) ro).2.1 = if p_X5_thick_30 fet fso fmi fpa fki fmo fsz frd fct v0 v1 v2 q w = w + q then -1 else nI (p_X5_thick_30 fet fso fmi fpa fki fmo fsz frd fct v0 v1 v2 q w)
  | 0, w, ro, h, hr => (if_pos rfl).symm
  | q + 1, w, ro, h, hr => by
    obtain ⟨x1, x2⟩ := sole_J (j := nC v0) (w := w) hJ rJ hr (by omega)
    have hv := heard_eq (nn := nC v2) hw hT x1 hP x2 rP hj hq
    rw [p_X5_thick_30, p_X6_thick_45, hv]
    simp only [if_pos (show (-1 : Int32) = -1 from rfl)]
    by_cases c : m_X6_heard_h034 ru Fst (upd ro (3 * nC v0) (nI w)) Fmo Fkd Fcd Fsr (nC v0) (nC v1) (nC v2) = 0
    · simp only [if_pos c]
      rw [if_neg (show ¬ w = w + (q + 1) by omega)]
      exact thick_kept q _ _ _ (nI_nn (by omega))
    · simp only [if_neg c]
      have e : w + (q + 1) = w + 1 + q := by omega
      rw [e]
      exact thick_run hw hT hJ hP rJ rP hj hq q (w + 1) _ (by omega) (fun i hi => by rw [upd_n9 hi]; exact hr i hi)
theorem thick_res (hw : mWx fct fet) (hT : TxR fct fet Fcd Fsr ru) (hJ : CtJ fso fmi fpa Fro) (hP : CtP pb fki fmo fsz frd Fkd Fmo Fst) (rJ : RgJ fso fpa) (rP : RgP pb fmo fsz) (hjg : jg ≤ 4) (hpb : pb ≤ 6) : m_X5_thick jg pb fet fso fmi fpa fki fmo fsz frd fct v0 v1 v2 = m_X6_thick pb jg ru Fst Fro Fmo Fkd Fcd Fsr v0 v1 v2 := by
  unfold m_X5_thick m_X6_thick
  by_cases a : mHas jg v0 = true
  · have hj := mHas_lt (by omega) a
    by_cases b : mHas pb v1 = true
    · have hq := mHas_lt (by omega) b
      rw [if_pos a, if_pos b, if_pos (both_t a b)]
      by_cases c : 0 ≤ v2 ∧ v2 ≤ 60
      · rw [if_pos c, if_pos c]
        have e := thick_run (v0 := v0) (v2 := v2) hw hT hJ hP rJ rP (show nC v0 < 4 by omega) hq 21 0 Fro (by omega) (fun i _ => rfl)
        have l := thick_le (fet := fet) (fso := fso) (fmi := fmi) (fpa := fpa) (fki := fki) (fmo := fmo) (fsz := fsz) (frd := frd) (fct := fct) (v0 := v0) (v1 := v1) (v2 := v2) 21 0
        unfold g_X6_thick_45 g_X5_thick_30
        refine Eq.trans ?_ e.symm
        change (if (20 : Int32) < nI (p_X5_thick_30 fet fso fmi fpa fki fmo fsz frd fct v0 v1 v2 21 0) then (-1 : Int32) else nI (p_X5_thick_30 fet fso fmi fpa fki fmo fsz frd fct v0 v1 v2 21 0)) = _
        generalize p_X5_thick_30 fet fso fmi fpa fki fmo fsz frd fct v0 v1 v2 21 0 = k at l ⊢
        rcases Nat.lt_or_ge k 21 with h | h
        · rw [if_neg (show ¬ (20 : Int32) < nI k from fun z => absurd (nI_lt1 (a := 20) (b := k) (by omega) (by omega) z) (by omega)), if_neg (show ¬ k = 0 + 21 by omega)]
        · have e : k = 21 := by omega
          subst e
          rw [if_pos (show (20 : Int32) < nI 21 by decide), if_pos (show 21 = 0 + 21 from rfl)]
      · rw [if_neg c, if_neg c]
    · rw [if_pos a, if_neg b, if_neg (both_f (fun z => b z.2))]
  · rw [if_neg a, if_neg (both_f (fun z => a z.1))]
theorem goa_run (hw : mWx fct fet) (hT : TxR fct fet Fcd Fsr ru) (hJ : CtJ fso fmi fpa Fro) (hP : CtP pb fki fmo fsz frd Fkd Fmo Fst) (rJ : RgJ fso fpa) (rP : RgP pb fmo fsz) (hj : jn < 4) : ∀ (q p : Nat) (my : Int32), p + q ≤ pb → (p_X5_guiltyOfAll_5 fet fso fmi fpa fki fmo fsz frd fct jn (nC v0) q p my).2 = (p_X6_hardest_42 ru Fst Fro Fmo Fkd Fcd Fsr v0 jn q p my).2
  | 0, p, my, h => rfl
  | q + 1, p, my, h => by
    have hv := heard_eq (nn := nC v0) hw hT hJ hP rJ rP hj (show p < pb by omega)
    rw [p_X5_guiltyOfAll_5, p_X6_hardest_42, hv]
    by_cases c : m_X6_heard_h034 ru Fst Fro Fmo Fkd Fcd Fsr jn p (nC v0) = 0
    · rw [if_pos c, c]; exact goa_run hw hT hJ hP rJ rP hj q (p + 1) _ (by omega)
    · rw [if_neg c, heard_1 c]; exact goa_run hw hT hJ hP rJ rP hj q (p + 1) _ (by omega)
theorem har_run (hw : mWx fct fet) (hT : TxR fct fet Fcd Fsr ru) (hJ : CtJ fso fmi fpa Fro) (hP : CtP pb fki fmo fsz frd Fkd Fmo Fst) (rJ : RgJ fso fpa) (rP : RgP pb fmo fsz) : ∀ (q j : Nat) (ha mo : Int32), j + q ≤ 4 → p_X5_hardest_28 pb fet fso fmi fpa fki fmo fsz frd fct v0 q j ha mo = p_X6_hardest_27 pb ru Fst Fro Fmo Fkd Fcd Fsr v0 q j ha mo
  | 0, j, ha, mo, h => rfl
  | q + 1, j, ha, mo, h => by
    have e : m_X5_guiltyOfAll pb fet fso fmi fpa fki fmo fsz frd fct j (nC v0) = (g_X6_hardest_42 pb ru Fst Fro Fmo Fkd Fcd Fsr v0 j).2 := goa_run hw hT hJ hP rJ rP (show j < 4 by omega) (pb - 0) 0 0 (by omega)
    rw [p_X5_hardest_28, p_X6_hardest_27, e]
    split
    · exact har_run hw hT hJ hP rJ rP q (j + 1) _ _ (by omega)
    · exact har_run hw hT hJ hP rJ rP q (j + 1) _ _ (by omega)
theorem hardest_res (hw : mWx fct fet) (hT : TxR fct fet Fcd Fsr ru) (hJ : CtJ fso fmi fpa Fro) (hP : CtP pb fki fmo fsz frd Fkd Fmo Fst) (rJ : RgJ fso fpa) (rP : RgP pb fmo fsz) (hjg : jg ≤ 4) : m_X5_hardest jg pb fet fso fmi fpa fki fmo fsz frd fct v0 v1 = m_X6_hardest pb jg ru Fst Fro Fmo Fkd Fcd Fsr v0 v1 := by
  have e : g_X5_hardest_28 jg pb fet fso fmi fpa fki fmo fsz frd fct v0 = g_X6_hardest_27 pb jg ru Fst Fro Fmo Fkd Fcd Fsr v0 := har_run hw hT hJ hP rJ rP (jg - 0) 0 (-1) (-1) (by omega)
  unfold m_X5_hardest m_X6_hardest
  rw [e]
end R1
