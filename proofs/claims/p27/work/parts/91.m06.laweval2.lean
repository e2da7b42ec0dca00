/-! calls of the courts alone: the same answer, the same courts behind them -/
theorem v_c3 {v : Int32} (h : 0 ≤ v ∧ v ≤ 2) : v = 0 ∨ v = 1 ∨ v = 2 := by
  obtain ⟨k, hk, e⟩ := i_nat (n := 2) (by omega) h
  have w : k = 0 ∨ k = 1 ∨ k = 2 := by omega
  rcases w with w | w | w <;> subst w
  · exact Or.inl e
  · exact Or.inr (Or.inl e)
  · exact Or.inr (Or.inr e)
theorem v_c4 {v : Int32} (h : 0 ≤ v ∧ v ≤ 3) : v = 0 ∨ v = 1 ∨ v = 2 ∨ v = 3 := by
  obtain ⟨k, hk, e⟩ := i_nat (n := 3) (by omega) h
  have w : k = 0 ∨ k = 1 ∨ k = 2 ∨ k = 3 := by omega
  rcases w with w | w | w | w <;> subst w
  · exact Or.inl e
  · exact Or.inr (Or.inl e)
  · exact Or.inr (Or.inr (Or.inl e))
  · exact Or.inr (Or.inr (Or.inr e))
theorem v_c2 {v : Int32} (h : 0 ≤ v ∧ v ≤ 1) : v = 0 ∨ v = 1 := by
  obtain ⟨k, hk, e⟩ := i_nat (n := 1) (by omega) h
  have w : k = 0 ∨ k = 1 := by omega
  rcases w with w | w <;> subst w
  · exact Or.inl e
  · exact Or.inr e
theorem c_i0 : nC 0 = 0 := nC_nI (k := 0) (by omega)
theorem c_i1 : nC 1 = 1 := nC_nI (k := 1) (by omega)
theorem c_i2 : nC 2 = 2 := nC_nI (k := 2) (by omega)
theorem c_i3 : nC 3 = 3 := nC_nI (k := 3) (by omega)
theorem both_t {jg pb : Nat} {a b : Int32} (h1 : mHas jg a = true) (h2 : mHas pb b = true) : mBoth jg pb a b = true := by
  unfold mBoth
  rw [h1, h2]
  rfl
theorem both_f {jg pb : Nat} {a b : Int32} (h : ¬ (mHas jg a = true ∧ mHas pb b = true)) : ¬ mBoth jg pb a b = true := fun z => h ((Bool.and_eq_true _ _).mp z)
section EV2
variable {fct : Nat → Int32} {fet : Nat → Nat} {Fcd : Nat → Int32} {Fsr : Nat → Nat} {ru pt jn pn pb jg nn : Nat} {fso fmi fpa fki fmo fsz frd Fro Fkd Fmo Fst : Nat → Int32} {v0 v1 v2 v3 : Int32}
theorem go_same (hw : mWx fct fet) (hT : TxR fct fet Fcd Fsr ru) (hJ : CtJ fso fmi fpa Fro) (hP : CtP pb fki fmo fsz frd Fkd Fmo Fst) (rJ : RgJ fso fpa) (rP : RgP pb fmo fsz) (hj : jn < 4) (hq : pn < pb) : m_X0_go jn pn nn fso fmi fpa fki fmo fsz frd fct fet = m_X6_caseOf ru Fst Fro Fmo Fkd Fcd Fsr jn pn nn ∧ CtJ (m_X0_go_n2 jn pn nn fso fmi fpa fki fmo fsz frd fct fet) (m_X0_go_n3 jn pn nn fso fmi fpa fki fmo fsz frd fct fet) (m_X0_go_n4 jn pn nn fso fmi fpa fki fmo fsz frd fct fet) (m_X6_caseOf_ro ru Fst Fro Fmo Fkd Fcd Fsr jn pn nn) ∧ CtP pb fki fmo (m_X0_go_n7 jn pn nn fso fmi fpa fki fmo fsz frd fct fet) frd Fkd Fmo (m_X6_caseOf_st ru Fst Fro Fmo Fkd Fcd Fsr jn pn nn) ∧ RgJ (m_X0_go_n2 jn pn nn fso fmi fpa fki fmo fsz frd fct fet) (m_X0_go_n4 jn pn nn fso fmi fpa fki fmo fsz frd fct fet) ∧ RgP pb fmo (m_X0_go_n7 jn pn nn fso fmi fpa fki fmo fsz frd fct fet) := go_run hw hT hj hq (nn - 0) 0 0 fso fmi fpa fsz Fro Fst hJ hP rJ rP
theorem walk_same (hw : mWx fct fet) (hT : TxR fct fet Fcd Fsr ru) (hJ : CtJ fso fmi fpa Fro) (hP : CtP pb fki fmo fsz frd Fkd Fmo Fst) (rJ : RgJ fso fpa) (rP : RgP pb fmo fsz) (hjg : jg ≤ 4) (hpb : pb ≤ 6) : m_X5_walk jg pb fet fso fmi fpa fki fmo fsz frd fct v0 v1 v2 = m_X6_walk pb jg ru Fst Fro Fmo Fkd Fcd Fsr v0 v1 v2 ∧ CtJ (m_X5_walk_n2 jg pb fet fso fmi fpa fki fmo fsz frd fct v0 v1 v2) (m_X5_walk_n3 jg pb fet fso fmi fpa fki fmo fsz frd fct v0 v1 v2) (m_X5_walk_n4 jg pb fet fso fmi fpa fki fmo fsz frd fct v0 v1 v2) (m_X6_walk_ro pb jg ru Fst Fro Fmo Fkd Fcd Fsr v0 v1 v2) ∧ CtP pb fki fmo (m_X5_walk_n7 jg pb fet fso fmi fpa fki fmo fsz frd fct v0 v1 v2) frd Fkd Fmo (m_X6_walk_st pb jg ru Fst Fro Fmo Fkd Fcd Fsr v0 v1 v2) ∧ RgJ (m_X5_walk_n2 jg pb fet fso fmi fpa fki fmo fsz frd fct v0 v1 v2) (m_X5_walk_n4 jg pb fet fso fmi fpa fki fmo fsz frd fct v0 v1 v2) ∧ RgP pb fmo (m_X5_walk_n7 jg pb fet fso fmi fpa fki fmo fsz frd fct v0 v1 v2) := by
  unfold m_X5_walk m_X6_walk m_X5_walk_n2 m_X5_walk_n3 m_X5_walk_n4 m_X5_walk_n7 m_X6_walk_ro m_X6_walk_st
  by_cases a : mHas jg v0 = true
  · have hj := mHas_lt (by omega) a
    by_cases b : mHas pb v1 = true
    · have hq := mHas_lt (by omega) b
      have ab := both_t a b
      simp only [if_pos a, if_pos b, if_pos ab]
      by_cases c : 0 ≤ v2 ∧ v2 ≤ 60
      · simp only [if_pos c]
        rw [(hJ (nC v0) (by omega)).2.1]
        by_cases d : Fro (3 * nC v0 + 1) + nI (nC v2) ≤ 999
        · simp only [if_pos d]
          exact go_same hw hT hJ hP rJ rP (by omega) hq
        · simp only [if_neg d]
          exact ⟨trivial, hJ, hP, rJ, rP⟩
      · simp only [if_neg c]
        exact ⟨trivial, hJ, hP, rJ, rP⟩
    · have ab : ¬ mBoth jg pb v0 v1 = true := both_f (fun z => b z.2)
      simp only [if_pos a, if_neg b, if_neg ab]
      exact ⟨trivial, hJ, hP, rJ, rP⟩
  · have ab : ¬ mBoth jg pb v0 v1 = true := both_f (fun z => a z.1)
    simp only [if_neg a, if_neg ab]
    exact ⟨trivial, hJ, hP, rJ, rP⟩
theorem bit_01 {a b : Int32} : (if (if a < b then (0 : Int32) else 1) = 0 then (0 : Int32) else 1) = if a < b then 0 else 1 := by
  by_cases c : a < b
  · rw [if_pos c]; rfl
  · rw [if_neg c]; rfl
theorem hear_res (hw : mWx fct fet) (hT : TxR fct fet Fcd Fsr ru) (hJ : CtJ fso fmi fpa Fro) (hP : CtP pb fki fmo fsz frd Fkd Fmo Fst) (rJ : RgJ fso fpa) (rP : RgP pb fmo fsz) (hjg : jg ≤ 4) (hpb : pb ≤ 6) : m_X5_hear jg pb fet fso fmi fpa fki fmo fsz frd fct v0 v1 v2 v3 = m_X6_hear pb jg ru Fst Fro Fmo Fkd Fcd Fsr v0 v1 v2 v3 := by
  unfold m_X5_hear m_X6_hear
  by_cases a : mHas jg v0 = true
  · have hj := mHas_lt (by omega) a
    by_cases b : mHas pb v1 = true
    · have hq := mHas_lt (by omega) b
      rw [if_pos a, if_pos b, if_pos (both_t a b)]
      by_cases c : 0 ≤ v2 ∧ v2 ≤ 60
      · rw [if_pos c, if_pos c]
        by_cases d : 0 ≤ v3 ∧ v3 ≤ 3
        · rw [if_pos d, if_pos d]
          obtain ⟨g1, g2, g3, g4, g5⟩ := go_same (nn := nC v2) hw hT hJ hP rJ rP (show nC v0 < 4 by omega) hq
          have s2 := says_eq (ru := ru) (pt := 2) hw hT (by decide) g2 g3 (show nC v0 < 4 by omega) hq
          unfold m_X6_toldCase m_X5_outcome m_X6_heard_h031 m_X6_heard_h032 m_X6_heard_h033 m_X6_heard_h034 m_X0_verdict
          rw [g1, s2, (g2 (nC v0) (by omega)).1, (g3 (nC v1) hq).2.2.1, bit_01]
          rcases v_c4 d with e | e | e | e <;> subst e
          · rw [c_i0]; rfl
          · rw [c_i1]; rfl
          · rw [c_i2]; rfl
          · rw [c_i3]; rfl
        · rw [if_neg d, if_neg d]
      · rw [if_neg c, if_neg c]
    · rw [if_pos a, if_neg b, if_neg (both_f (fun z => b z.2))]
  · rw [if_neg a, if_neg (both_f (fun z => a z.1))]
theorem told_res (hP : CtP pb fki fmo fsz frd Fkd Fmo Fst) (hpb : pb ≤ 6) : m_X5_told pb fki fmo fsz frd v0 v1 = m_X6_told pb Fkd Fmo Fst v0 v1 := by
  unfold m_X5_told m_X6_told
  by_cases b : mHas pb v0 = true
  · have hq := mHas_lt (by omega) b
    obtain ⟨b1, b2, b3, b4⟩ := hP (nC v0) hq
    rw [if_pos b, if_pos b, sand_eq hP hq, b1, b2, b3, b4]
    rfl
  · rw [if_neg b, if_neg b]
theorem asks_res (hw : mWx fct fet) (hT : TxR fct fet Fcd Fsr ru) (hJ : CtJ fso fmi fpa Fro) (hP : CtP pb fki fmo fsz frd Fkd Fmo Fst) (hjg : jg ≤ 4) (hpb : pb ≤ 6) : m_X5_asks jg pb fet fso fmi fmo fsz frd fct v0 v1 v2 = m_X6_asks pb jg ru Fst Fro Fmo Fcd Fsr v0 v1 v2 := by
  unfold m_X5_asks m_X6_asks
  by_cases d : 0 ≤ v0 ∧ v0 ≤ 2
  · have hd := nC_le (n := 2) (by omega) d
    rw [if_pos d, if_pos d]
    by_cases a : mHas jg v1 = true
    · have hj := mHas_lt (by omega) a
      rw [if_pos a, if_pos a]
      by_cases b : mHas pb v2 = true
      · have hq := mHas_lt (by omega) b
        rw [if_pos b, if_pos b, says_eq hw hT (by omega) hJ hP (by omega) hq]
      · rw [if_neg b, if_neg b]
    · rw [if_neg a, if_neg a]
  · rw [if_neg d, if_neg d]
theorem bench_res (hJ : CtJ fso fmi fpa Fro) (hjg : jg ≤ 4) : m_X5_bench jg fso fmi fpa v0 v1 = m_X6_bench jg Fro v0 v1 := by
  unfold m_X5_bench m_X6_bench
  by_cases a : mHas jg v0 = true
  · have hj := mHas_lt (by omega) a
    obtain ⟨b1, b2, b3⟩ := hJ (nC v0) (by omega)
    rw [if_pos a, if_pos a, b1, b2, b3]
    by_cases d : 0 ≤ v1 ∧ v1 ≤ 2
    · rw [if_pos d]
      rcases v_c3 d with e | e | e <;> subst e
      · rw [c_i0]; rfl
      · rw [c_i1]; rfl
      · rw [c_i2]; rfl
    · rw [if_neg d, if_neg (show ¬ v1 = 0 from fun z => d (by rw [z]; exact ⟨by decide, by decide⟩)), if_neg (show ¬ v1 = 1 from fun z => d (by rw [z]; exact ⟨by decide, by decide⟩)), if_neg (show ¬ v1 = 2 from fun z => d (by rw [z]; exact ⟨by decide, by decide⟩))]
  · rw [if_neg a, if_neg a]
theorem shoe_res (hJ : CtJ fso fmi fpa Fro) (hjg : jg ≤ 4) : m_X5_shoe jg fso fmi v0 v1 v2 = m_X6_shoe jg Fro v0 v1 v2 := by
  unfold m_X5_shoe m_X6_shoe
  by_cases a : mHas jg v0 = true
  · have hj := mHas_lt (by omega) a
    obtain ⟨b1, b2, b3⟩ := hJ (nC v0) (by omega)
    rw [if_pos a, if_pos a, b1, b2]
    by_cases d : 0 ≤ v1 ∧ v1 ≤ 1
    · rw [if_pos d, if_pos d]
      rcases v_c2 d with e | e <;> subst e
      · rw [c_i0]; rfl
      · rw [c_i1]; rfl
    · rw [if_neg d, if_neg d]
  · rw [if_neg a, if_neg a]
theorem shoe_J (hJ : CtJ fso fmi fpa Fro) (rJ : RgJ fso fpa) (hjg : jg ≤ 4) : CtJ (m_X5_shoe_n2 jg fso v0 v1 v2) (m_X5_shoe_n3 jg fmi v0 v1 v2) fpa (m_X6_shoe_ro jg Fro v0 v1 v2) ∧ RgJ (m_X5_shoe_n2 jg fso v0 v1 v2) fpa := by
  unfold m_X5_shoe_n2 m_X5_shoe_n3 m_X6_shoe_ro
  by_cases a : mHas jg v0 = true
  · have hj := mHas_lt (by omega) a
    simp only [if_pos a]
    by_cases d : 0 ≤ v1 ∧ v1 ≤ 1
    · simp only [if_pos d]
      rcases v_c2 d with e | e <;> subst e
      · rw [c_i0]
        simp only [if_pos (show nI 0 = 0 from rfl)]
        by_cases g : 0 ≤ v2 ∧ v2 ≤ 20
        · simp only [if_pos g]
          refine ⟨fun j h => ?_, fun j h => ⟨?_, (rJ j h).2⟩⟩
          · obtain ⟨x1, x2, x3⟩ := hJ j h
            rw [upd_n9 (show ¬ 3 * j + 1 = 3 * nC v0 + 0 by omega), upd_n9 (show ¬ 3 * j + 2 = 3 * nC v0 + 0 by omega)]
            refine ⟨?_, x2, x3⟩
            by_cases e : j = nC v0
            · rw [upd_a9 e, upd_a9 (by omega)]
            · rw [upd_n9 e, upd_n9 (by omega)]; exact x1
          · by_cases e : j = nC v0
            · rw [upd_a9 e, ← nC_eq g.1]; exact g
            · rw [upd_n9 e]; exact (rJ j h).1
        · simp only [if_neg g]; exact ⟨hJ, rJ⟩
      · rw [c_i1]
        simp only [if_neg (show ¬ nI 1 = 0 by decide)]
        by_cases g : 0 ≤ v2 ∧ v2 ≤ 999
        · simp only [if_pos g]
          refine ⟨fun j h => ?_, rJ⟩
          obtain ⟨x1, x2, x3⟩ := hJ j h
          rw [upd_n9 (show ¬ 3 * j = 3 * nC v0 + 1 by omega), upd_n9 (show ¬ 3 * j + 2 = 3 * nC v0 + 1 by omega)]
          refine ⟨x1, ?_, x3⟩
          by_cases e : j = nC v0
          · rw [upd_a9 e, upd_a9 (by omega)]
          · rw [upd_n9 e, upd_n9 (by omega)]; exact x2
        · simp only [if_neg g]; exact ⟨hJ, rJ⟩
    · simp only [if_neg d]; exact ⟨hJ, rJ⟩
  · simp only [if_neg a]; exact ⟨hJ, rJ⟩
theorem put_res (hP : CtP pb fki fmo fsz frd Fkd Fmo Fst) (hpb : pb ≤ 6) : m_X5_put pb fsz frd v0 v1 v2 = m_X6_put pb Fst v0 v1 v2 := by
  unfold m_X5_put m_X6_put
  by_cases a : mHas pb v0 = true
  · have hj := mHas_lt (by omega) a
    obtain ⟨b1, b2, b3, b4⟩ := hP (nC v0) hj
    rw [if_pos a, if_pos a, b3, b4]
    by_cases d : 0 ≤ v1 ∧ v1 ≤ 1
    · rw [if_pos d, if_pos d]
      rcases v_c2 d with e | e <;> subst e
      · rw [c_i0]; rfl
      · rw [c_i1]; rfl
    · rw [if_neg d, if_neg d]
  · rw [if_neg a, if_neg a]
theorem put_P (hP : CtP pb fki fmo fsz frd Fkd Fmo Fst) (rP : RgP pb fmo fsz) (hpb : pb ≤ 6) : CtP pb fki fmo (m_X5_put_n7 pb fsz v0 v1 v2) (m_X5_put_n8 pb frd v0 v1 v2) Fkd Fmo (m_X6_put_st pb Fst v0 v1 v2) ∧ RgP pb fmo (m_X5_put_n7 pb fsz v0 v1 v2) := by
  unfold m_X5_put_n7 m_X5_put_n8 m_X6_put_st
  by_cases a : mHas pb v0 = true
  · have hj := mHas_lt (by omega) a
    simp only [if_pos a]
    by_cases d : 0 ≤ v1 ∧ v1 ≤ 1
    · simp only [if_pos d]
      by_cases g : 0 ≤ v2 ∧ v2 ≤ 99
      · simp only [if_pos g]
        rcases v_c2 d with e | e <;> subst e
        · rw [c_i0]
          simp only [if_pos (show nI 0 = 0 from rfl)]
          refine ⟨fun p h => ?_, fun p h => ⟨(rP p h).1, ?_⟩⟩
          · obtain ⟨x1, x2, x3, x4⟩ := hP p h
            rw [upd_n9 (show ¬ 2 * p + 1 = 2 * nC v0 + 0 by omega)]
            refine ⟨x1, x2, ?_, x4⟩
            by_cases e : p = nC v0
            · rw [upd_a9 e, upd_a9 (by omega)]
            · rw [upd_n9 e, upd_n9 (by omega)]; exact x3
          · by_cases e : p = nC v0
            · rw [upd_a9 e, ← nC_eq g.1]; exact g
            · rw [upd_n9 e]; exact (rP p h).2
        · rw [c_i1]
          simp only [if_neg (show ¬ nI 1 = 0 by decide)]
          refine ⟨fun p h => ?_, rP⟩
          obtain ⟨x1, x2, x3, x4⟩ := hP p h
          rw [upd_n9 (show ¬ 2 * p = 2 * nC v0 + 1 by omega)]
          refine ⟨x1, x2, x3, ?_⟩
          by_cases e : p = nC v0
          · rw [upd_a9 e, upd_a9 (by omega)]
          · rw [upd_n9 e, upd_n9 (by omega)]; exact x4
      · simp only [if_neg g]; exact ⟨hP, rP⟩
    · simp only [if_neg d]; exact ⟨hP, rP⟩
  · simp only [if_neg a]; exact ⟨hP, rP⟩
end EV2
