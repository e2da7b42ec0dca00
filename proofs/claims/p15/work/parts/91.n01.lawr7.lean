/-! the fewest miles: bits on the one side, a row on the other -/
def bOn (w : Int64) (k : Nat) : Prop := lg_cmp ((w >>> ((nI k).toInt64 &&& 63)) &&& 1) 1 = 0
theorem sm_n {n : Nat} (h : n < 61) : (((nI n).toInt64 &&& 63).toBitVec.smod 64).toNat = n := (by decide +kernel : ∀ n, n < 61 → (((nI n).toInt64 &&& 63).toBitVec.smod 64).toNat = n) n h
theorem bon_iff {w : Int64} {k : Nat} (h : k < 61) : bOn w k ↔ w.toBitVec.getLsbD k = true := by
  have e : ((w >>> ((nI k).toInt64 &&& 63)) &&& 1).toBitVec = BitVec.setWidth 64 (BitVec.ofBool (w.toBitVec.getLsbD k)) := by
    rw [Int64.toBitVec_and, Int64.toBitVec_shiftRight, BitVec.sshiftRight_eq', sm_n h, show (1 : Int64).toBitVec = 1#64 from rfl, BitVec.and_one_eq_setWidth_ofBool_getLsbD, BitVec.getLsbD_sshiftRight, if_pos (show k + 0 < 64 by omega), Nat.add_zero]
    rfl
  unfold bOn
  rw [lg_cmp_eq, ← Int64.toBitVec_inj, e]
  cases w.toBitVec.getLsbD k with
  | true => exact ⟨fun _ => rfl, fun _ => by decide⟩
  | false => exact ⟨fun z => absurd z (by decide), fun z => absurd z (by decide)⟩
theorem bon_z {k : Nat} (h : k < 61) : ¬ bOn 0 k := by
  rw [bon_iff h, show (0 : Int64).toBitVec = 0#64 from rfl, BitVec.getLsbD_zero]
  decide
theorem bon_0 {w : Int64} {n k : Nat} (hk : k < 61) (hn : n < 61) : bOn (w ||| ((0 : Int32).toInt64 <<< ((nI n).toInt64 &&& 63))) k ↔ bOn w k := by
  rw [bon_iff hk, bon_iff hk, Int64.toBitVec_or, Int64.toBitVec_shiftLeft, BitVec.shiftLeft_eq', sm_n hn, BitVec.getLsbD_or, BitVec.getLsbD_shiftLeft, show (0 : Int32).toInt64.toBitVec = 0#64 by decide, BitVec.getLsbD_zero, Bool.and_false, Bool.or_false]
theorem bon_1 {w : Int64} {n k : Nat} (hk : k < 61) (hn : n < 61) : bOn (w ||| ((1 : Int32).toInt64 <<< ((nI n).toInt64 &&& 63))) k ↔ (bOn w k ∨ k = n) := by
  rw [bon_iff hk, bon_iff hk, Int64.toBitVec_or, Int64.toBitVec_shiftLeft, BitVec.shiftLeft_eq', sm_n hn, BitVec.getLsbD_or, BitVec.getLsbD_shiftLeft, show (1 : Int32).toInt64.toBitVec = 1#64 by decide, BitVec.getLsbD_one]
  simp only [Bool.or_eq_true, Bool.and_eq_true, decide_eq_true_eq, Bool.not_eq_true', decide_eq_false_iff_not]
  refine or_congr Iff.rfl ⟨fun z => by omega, fun z => by omega⟩
section R9
variable {fct : Nat → Int32} {fet : Nat → Nat} {Fcd : Nat → Int32} {Fsr : Nat → Nat} {ru jn pn pb jg : Nat} {fso fmi fpa fki fmo fsz frd Fro Fkd Fmo Fst Fgb : Nat → Int32} {v0 v1 : Int32}
theorem few_run (hw : mWx fct fet) (hT : TxR fct fet Fcd Fsr ru) (hj : jn < 4) (hq : pn < pb) : ∀ (q n : Nat) (bi : Int64) (fe sa : Int32) (gb a b c d ro st : Nat → Int32), n + q ≤ 61 → CtJ a b c ro → CtP pb fki fmo d frd Fkd Fmo st → RgJ a c → RgP pb fmo d → (∀ k, k < n → (bOn bi k ↔ ¬ gb k = 0)) → (∀ k, n ≤ k → k < 61 → ¬ bOn bi k) → ∀ k, k < n + q → (bOn (p_X5_guiltyBits_12 fet fki fmo frd fct jn pn q n bi fe a b c d).2.1 k ↔ ¬ (p_X6_tellsMiles_12 ru Fmo Fkd Fcd Fsr jn pn q n fe sa gb ro st).2.2.2.1 k = 0)
  | 0, n, bi, fe, sa, gb, a, b, c, d, ro, st, h61, hJ, hP, rJ, rP, h1, h2, k, hk => h1 k hk
  | q + 1, n, bi, fe, sa, gb, a, b, c, d, ro, st, h61, hJ, hP, rJ, rP, h1, h2, k, hk => by
    rw [p_X5_guiltyBits_12, p_X6_tellsMiles_12, mile_eq hw hT hJ hP hj hq]
    obtain ⟨x1, x2⟩ := mile_J hw hT hJ hP rJ rP hj hq
    obtain ⟨y1, y2⟩ := mile_P (v := 0) ⟨by decide, by decide⟩ hw hT hJ hP rP hj hq
    have s2 := says_eq (ru := ru) (pt := 2) hw hT (by decide) hJ hP hj hq
    have hn : n < 61 := by omega
    have hk1 : k < n + 1 + q := by omega
    by_cases c1 : fe < m_X6_asksOf ru st ro Fmo Fcd Fsr 2 jn pn
    · have ev : m_X0_verdict jn pn a b fmo d frd fct fet fe = 0 := by
        unfold m_X0_verdict
        rw [s2, if_pos c1]
      have g1 : ∀ j, j < n + 1 → (bOn (bi ||| ((0 : Int32).toInt64 <<< ((nI n).toInt64 &&& 63))) j ↔ ¬ upd gb n 0 j = 0) := fun j hj1 => by
        rw [bon_0 (show j < 61 by omega) hn]
        by_cases e : j = n
        · rw [upd_a9 e]; exact ⟨fun z => absurd z (h2 j (by omega) (by omega)), fun z => absurd rfl z⟩
        · rw [upd_n9 e]; exact h1 j (by omega)
      have g2 : ∀ j, n + 1 ≤ j → j < 61 → ¬ bOn (bi ||| ((0 : Int32).toInt64 <<< ((nI n).toInt64 &&& 63))) j := fun j h3 h4 => by
        rw [bon_0 h4 hn]; exact h2 j (by omega) h4
      rw [ev, if_pos c1]
      repeat' split
      all_goals exact few_run hw hT hj hq q (n + 1) _ _ _ _ _ _ _ _ _ _ (by omega) x1 y1 x2 y2 g1 g2 k hk1
    · have ev : m_X0_verdict jn pn a b fmo d frd fct fet fe = 1 := by
        unfold m_X0_verdict
        rw [s2, if_neg c1]
      have g1 : ∀ j, j < n + 1 → (bOn (bi ||| ((1 : Int32).toInt64 <<< ((nI n).toInt64 &&& 63))) j ↔ ¬ upd gb n 1 j = 0) := fun j hj1 => by
        rw [bon_1 (show j < 61 by omega) hn]
        by_cases e : j = n
        · rw [upd_a9 e]; exact ⟨fun _ => by decide, fun _ => Or.inr e⟩
        · rw [upd_n9 e]; exact ⟨fun z => (h1 j (by omega)).mp (z.resolve_right e), fun z => Or.inl ((h1 j (by omega)).mpr z)⟩
      have g2 : ∀ j, n + 1 ≤ j → j < 61 → ¬ bOn (bi ||| ((1 : Int32).toInt64 <<< ((nI n).toInt64 &&& 63))) j := fun j h3 h4 => by
        rw [bon_1 h4 hn]
        rintro (z | z)
        · exact h2 j (by omega) h4 z
        · omega
      rw [ev, if_neg c1]
      repeat' split
      all_goals exact few_run hw hT hj hq q (n + 1) _ _ _ _ _ _ _ _ _ _ (by omega) x1 y1 x2 y2 g1 g2 k hk1
theorem least_eq {w : Int64} (h : ∀ k, k < 61 → (bOn w k ↔ ¬ m_X6_tellsMiles_gb ru Fst Fro Fmo Fkd Fcd Fsr Fgb (nC v0) (nC v1) k = 0)) : ∀ (q n : Nat), n + q ≤ 61 → p_X5_leastBit_2 w q n = p_X6_fewest_28 ru Fst Fro Fmo Fkd Fcd Fsr Fgb v0 v1 q n
  | 0, n, hn => rfl
  | q + 1, n, hn => by
    rw [p_X5_leastBit_2, p_X6_fewest_28]
    by_cases c : m_X6_tellsMiles_gb ru Fst Fro Fmo Fkd Fcd Fsr Fgb (nC v0) (nC v1) n = 0
    · rw [if_pos c, if_neg (show ¬ lg_cmp ((w >>> ((nI n).toInt64 &&& 63)) &&& 1) 1 = 0 from fun z => ((h n (by omega)).mp z) c)]
      exact least_eq h q (n + 1) (by omega)
    · rw [if_neg c, if_pos (show lg_cmp ((w >>> ((nI n).toInt64 &&& 63)) &&& 1) 1 = 0 from (h n (by omega)).mpr c)]
theorem fewest_res (hw : mWx fct fet) (hT : TxR fct fet Fcd Fsr ru) (hJ : CtJ fso fmi fpa Fro) (hP : CtP pb fki fmo fsz frd Fkd Fmo Fst) (rJ : RgJ fso fpa) (rP : RgP pb fmo fsz) (hjg : jg ≤ 4) (hpb : pb ≤ 6) : m_X5_fewest jg pb fet fso fmi fpa fki fmo fsz frd fct v0 v1 = m_X6_fewest pb jg ru Fst Fro Fmo Fkd Fcd Fsr Fgb v0 v1 := by
  unfold m_X5_fewest m_X6_fewest
  by_cases a : mHas jg v0 = true
  · have hj := mHas_lt (by omega) a
    by_cases b : mHas pb v1 = true
    · have hq := mHas_lt (by omega) b
      rw [if_pos a, if_pos b, if_pos (both_t a b)]
      have e := few_run hw hT (show nC v0 < 4 by omega) hq 61 0 0 0 (-1) Fgb fso fmi fpa fsz Fro Fst (by omega) hJ hP rJ rP (fun k h => absurd h (by omega)) (fun k _ h => bon_z h)
      have h : ∀ k, k < 61 → (bOn (m_X5_guiltyBits fet fso fmi fpa fki fmo fsz frd fct (nC v0) (nC v1)) k ↔ ¬ m_X6_tellsMiles_gb ru Fst Fro Fmo Fkd Fcd Fsr Fgb (nC v0) (nC v1) k = 0) := fun k hk => e k (by omega)
      have f : g_X5_leastBit_2 (m_X5_guiltyBits fet fso fmi fpa fki fmo fsz frd fct (nC v0) (nC v1)) = g_X6_fewest_28 ru Fst Fro Fmo Fkd Fcd Fsr Fgb v0 v1 := least_eq h (61 - 0) 0 (by omega)
      unfold m_X5_leastBit
      rw [f]
    · rw [if_pos a, if_neg b, if_neg (both_f (fun z => b z.2))]
  · rw [if_neg a, if_neg (both_f (fun z => a z.1))]
end R9
