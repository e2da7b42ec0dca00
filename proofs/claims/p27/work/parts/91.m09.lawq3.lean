/-! a film, cell by cell; the image -/
theorem w3q {y z : Nat → Int32} {o p : Nat} {a b c : Int32} {i : Nat} (h : y i = z (o + i)) : upd (upd (upd y (3 * p) a) (3 * p + 1) b) (3 * p + 2) c i = upd (upd (upd z (o + 3 * p) a) (o + 3 * p + 1) b) (o + 3 * p + 2) c (o + i) := by
  by_cases c2 : i = 3 * p + 2
  · rw [upd_a9 c2, upd_a9 (by omega)]
  · rw [upd_n9 c2, upd_n9 (show ¬ o + i = o + 3 * p + 2 by omega)]
    by_cases c1 : i = 3 * p + 1
    · rw [upd_a9 c1, upd_a9 (by omega)]
    · rw [upd_n9 c1, upd_n9 (show ¬ o + i = o + 3 * p + 1 by omega)]
      by_cases c0 : i = 3 * p
      · rw [upd_a9 c0, upd_a9 (by omega)]
      · rw [upd_n9 c0, upd_n9 (by omega)]; exact h
theorem b8_0 : (0 : Int32).toInt8.toInt32 = 0 := by decide
theorem b8_1 : (1 : Int32).toInt8.toInt32 = 1 := by decide
section FQ
variable {fct : Nat → Int32} {fet : Nat → Nat} {Fcd : Nat → Int32} {Fsr : Nat → Nat} {ru pb jg sn : Nat} {fki fmo frd Fkd Fmo fqo : Nat → Int32} {v2 v3 : Int32}
theorem film_Q (hw : mWx fct fet) (hT : TxR fct fet Fcd Fsr ru) (hsn : sn < 4) (hj : nC v2 < 4) (hv : nC v3 ≤ 60) (hp6 : pb ≤ 6) : ∀ (q p : Nat) (m : Int32) (y a b c d z s o : Nat → Int32), p + q ≤ pb → CtJ a b c o → CtP pb fki fmo d frd Fkd Fmo s → RgJ a c → RgP pb fmo d → (∀ i, i < 40 → y i = z (40 * sn + i)) → (p_X5_film_A_68 fet fki fmo frd fct fqo sn v2 v3 q p m y a b c d).2.1 = (p_X6_film_72 ru Fmo Fkd Fcd Fsr (nI sn) v2 v3 q p m z s o).2.1 ∧ ∀ i, i < 40 → (p_X5_film_A_68 fet fki fmo frd fct fqo sn v2 v3 q p m y a b c d).2.2.1 i = (p_X6_film_72 ru Fmo Fkd Fcd Fsr (nI sn) v2 v3 q p m z s o).2.2.1 (40 * sn + i)
  | 0, p, m, y, a, b, c, d, z, s, o, h1, hJ, hP, rJ, rP, h2 => ⟨rfl, h2⟩
  | q + 1, p, m, y, a, b, c, d, z, s, o, h1, hJ, hP, rJ, rP, h2 => by
    rw [p_X5_film_A_68, p_X6_film_72, nC_nI (show sn < 2 ^ 31 by omega), st_rr, st_rr, st_rr, b8_all p (by omega), b8_all (nC v3) (by omega)]
    obtain ⟨g1, g2, g3, g4, g5⟩ := go_same (nn := nC v3) hw hT hJ hP rJ rP hj (show p < pb by omega)
    have s2 := says_eq (ru := ru) (pt := 2) hw hT (by decide) g2 g3 hj (show p < pb by omega)
    unfold m_X0_verdict
    rw [g1, s2]
    by_cases c7 : m_X6_caseOf ru s o Fmo Fkd Fcd Fsr (nC v2) p (nC v3) < m_X6_asksOf ru (m_X6_caseOf_st ru s o Fmo Fkd Fcd Fsr (nC v2) p (nC v3)) (m_X6_caseOf_ro ru s o Fmo Fkd Fcd Fsr (nC v2) p (nC v3)) Fmo Fcd Fsr 2 (nC v2) p
    · simp only [if_pos c7]
      rw [b8_0]
      exact film_Q hw hT hsn hj hv hp6 q (p + 1) _ _ _ _ _ _ _ _ _ (by omega) g2 g3 g4 g5 (fun i hi => w3q (h2 i hi))
    · simp only [if_neg c7]
      rw [b8_1]
      exact film_Q hw hT hsn hj hv hp6 q (p + 1) _ _ _ _ _ _ _ _ _ (by omega) g2 g3 g4 g5 (fun i hi => w3q (h2 i hi))
theorem film_same {fso fmi fpa fsz frr Fst Fro Fce : Nat → Int32} (hw : mWx fct fet) (hT : TxR fct fet Fcd Fsr ru) (hsn : sn < 4) (hjg : jg ≤ 4) (hp6 : pb ≤ 6) (hJ : CtJ fso fmi fpa Fro) (hP : CtP pb fki fmo fsz frd Fkd Fmo Fst) (rJ : RgJ fso fpa) (rP : RgP pb fmo fsz) (h : ∀ i, i < 40 → frr i = Fce (40 * sn + i)) : m_X5_film_A jg pb fet fso fmi fpa fki fmo fsz frd fct fqo sn v2 v3 = m_X6_film pb jg ru Fst Fro Fmo Fkd Fcd Fsr Fce (nI sn) v2 v3 ∧ ∀ i, i < 40 → m_X5_film_A_rr jg pb fet fso fmi fpa fki fmo fsz frd fct fqo frr sn v2 v3 i = m_X6_film_ce pb jg ru Fst Fro Fmo Fkd Fcd Fsr Fce (nI sn) v2 v3 (40 * sn + i) := by
  have e0 : nC (nI sn) = sn := nC_nI (by omega)
  unfold m_X5_film_A m_X6_film m_X5_film_A_rr m_X6_film_ce g_X6_film_72 g_X6_film_36 g_X5_film_A_68
  simp only [if_pos (sn_in hsn)]
  by_cases c1 : mHas jg v2 = true
  · have hj := mHas_lt (by omega) c1
    simp only [if_pos c1]
    by_cases c2 : 0 ≤ v3 ∧ v3 ≤ 60
    · simp only [if_pos c2]
      exact film_Q hw hT hsn (by omega) (nC_le (n := 60) (by omega) c2) hp6 (pb - 0) 0 _ _ _ _ _ _ _ _ _ (by omega) hJ hP rJ rP (fun i hi => by rw [zr_36, e0, if_pos (by omega)])
    · simp only [if_neg c2]; exact ⟨trivial, h⟩
  · simp only [if_neg c1]; exact ⟨trivial, h⟩
end FQ
def IM (him : Int32) (pb kb : Nat) (fki fmo gso gmi gpa gki gmo gsz grd Fir : Nat → Int32) : Prop := him = 0 ∨ (kb ≤ pb ∧ (∀ j, j < 4 → gso j = Fir (3 * j) ∧ gmi j = Fir (3 * j + 1) ∧ gpa j = Fir (3 * j + 2)) ∧ (∀ p, p < kb → gki p = fki p ∧ gmo p = fmo p ∧ gsz p = Fir (12 + 2 * p) ∧ grd p = Fir (12 + 2 * p + 1)) ∧ RgJ gso gpa ∧ RgP kb gmo gsz ∧ RgK kb gki)
theorem im_keep {him : Int32} {pb pb' kb : Nat} {fki fmo fki' fmo' gso gmi gpa gki gmo gsz grd Fir : Nat → Int32} (h : IM him pb kb fki fmo gso gmi gpa gki gmo gsz grd Fir) (hk : ∀ p, p < pb → fki' p = fki p ∧ fmo' p = fmo p) (hp : pb ≤ pb') : IM him pb' kb fki' fmo' gso gmi gpa gki gmo gsz grd Fir := by
  rcases h with h | ⟨h1, h2, h3, h4⟩
  · exact Or.inl h
  · exact Or.inr ⟨Nat.le_trans h1 hp, h2, fun p hq => by
      obtain ⟨x1, x2, x3, x4⟩ := h3 p hq
      obtain ⟨y1, y2⟩ := hk p (by omega)
      exact ⟨x1.trans y1.symm, x2.trans y2.symm, x3, x4⟩, h4⟩
theorem im_image {pb : Nat} {fso fmi fpa fki fmo fsz frd Fro Fkd Fmo Fst : Nat → Int32} (hp : pb ≤ 6) (hJ : CtJ fso fmi fpa Fro) (rJ : RgJ fso fpa) (hQ : QP pb fki fmo fsz frd Fkd Fmo Fst) : IM 1 pb pb fki fmo fso fmi fpa fki fmo fsz frd (mKeep Fro Fst) := by
  refine Or.inr ⟨Nat.le_refl _, fun j hj => ?_, fun p hq => ?_, rJ, hQ.2.1, hQ.2.2⟩
  · obtain ⟨x1, x2, x3⟩ := hJ j hj
    unfold mKeep
    rw [if_pos (by omega), if_pos (by omega), if_pos (by omega)]
    exact ⟨x1, x2, x3⟩
  · obtain ⟨x1, x2, x3, x4⟩ := hQ.1 p hq
    unfold mKeep
    rw [if_neg (by omega), if_neg (by omega), show 12 + 2 * p - 12 = 2 * p by omega, show 12 + 2 * p + 1 - 12 = 2 * p + 1 by omega]
    exact ⟨rfl, rfl, x3, x4⟩
theorem im_back {him : Int32} {pb kb : Nat} {fki fmo fsz frd gso gmi gpa gki gmo gsz grd ga gb Fkd Fmo Fst : Nat → Int32} (hz : ¬ him = 0) (hQ : QP pb fki fmo fsz frd Fkd Fmo Fst) (h : IM him pb kb fki fmo gso gmi gpa gki gmo gsz grd (mKeep ga gb)) (hk : kb ≤ 6) : CtJ gso gmi gpa ga ∧ RgJ gso gpa ∧ QP kb gki gmo gsz grd Fkd Fmo gb ∧ IM him kb kb gki gmo gso gmi gpa gki gmo gsz grd (mKeep ga gb) := by
  obtain ⟨h1, h2, h3, h4, h5, h6⟩ := h.resolve_left hz
  refine ⟨fun j hj => ?_, h4, ⟨fun p hp => ?_, h5, h6⟩, Or.inr ⟨Nat.le_refl _, h2, fun p hp => ⟨rfl, rfl, (h3 p hp).2.2⟩, h4, h5, h6⟩⟩
  · obtain ⟨x1, x2, x3⟩ := h2 j hj
    unfold mKeep at x1 x2 x3
    rw [if_pos (by omega)] at x1 x2 x3
    exact ⟨x1, x2, x3⟩
  · obtain ⟨x1, x2, x3, x4⟩ := h3 p hp
    obtain ⟨y1, y2, y3, y4⟩ := hQ.1 p (by omega)
    unfold mKeep at x3 x4
    rw [if_neg (by omega), show 12 + 2 * p - 12 = 2 * p by omega] at x3
    rw [if_neg (by omega), show 12 + 2 * p + 1 - 12 = 2 * p + 1 by omega] at x4
    exact ⟨x1.trans y1, x2.trans y2, x3, x4⟩
