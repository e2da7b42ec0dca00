/-! told circuits: sizes and rounds counted, the least of them; by which texts; no such sheet -/
noncomputable def szU (Q : Nat → Bool) : Nat → Nat → Int32 → Int32 → Int32 × Int32
  | 0, w, mn, le => (mn, le)
  | q + 1, w, mn, le => if Q w = true then (if le = -1 then szU Q q (w + 1) (mn + 1) (nI w) else szU Q q (w + 1) (mn + 1) le) else szU Q q (w + 1) (mn + 0) le
noncomputable def szD (Q : Nat → Bool) : Nat → Int32 → Int32 → Int32 × Int32
  | 0, mn, le => (mn, le)
  | q + 1, mn, le => if Q q = true then szD Q q (mn + 1) (nI q) else szD Q q mn le
theorem szU_snoc {Q : Nat → Bool} : ∀ (q w : Nat) (mn le : Int32), szU Q (q + 1) w mn le = if Q (w + q) = true then ((szU Q q w mn le).1 + 1, if (szU Q q w mn le).2 = -1 then nI (w + q) else (szU Q q w mn le).2) else ((szU Q q w mn le).1 + 0, (szU Q q w mn le).2)
  | 0, w, mn, le => by
    show (if Q w = true then (if le = -1 then (mn + 1, nI w) else (mn + 1, le)) else (mn + 0, le)) = (if Q (w + 0) = true then (mn + 1, if le = -1 then nI (w + 0) else le) else (mn + 0, le))
    rw [Nat.add_zero]
    by_cases c : Q w = true
    · rw [if_pos c, if_pos c]
      by_cases d : le = -1
      · rw [if_pos d, if_pos d]
      · rw [if_neg d, if_neg d]
    · rw [if_neg c, if_neg c]
  | q + 1, w, mn, le => by
    have e : w + (q + 1) = w + 1 + q := by omega
    rw [szU, e]
    conv => rhs; rw [szU]
    by_cases c : Q w = true
    · rw [if_pos c]
      by_cases d : le = -1
      · simp only [if_pos c, if_pos d]; exact szU_snoc q (w + 1) _ _
      · simp only [if_pos c, if_neg d]; exact szU_snoc q (w + 1) _ _
    · simp only [if_neg c]; exact szU_snoc q (w + 1) _ _
theorem szD_U {Q : Nat → Bool} : ∀ (n : Nat) (mn le : Int32), n ≤ 100 → szD Q n mn le = (mn + (szU Q n 0 0 (-1)).1, if (szU Q n 0 0 (-1)).2 = -1 then le else (szU Q n 0 0 (-1)).2)
  | 0, mn, le, h => by
    refine Prod.ext ?_ ?_
    · exact (Int32.add_zero mn).symm
    · show le = if (szU Q 0 0 0 (-1)).2 = -1 then le else (szU Q 0 0 0 (-1)).2
      exact (if_pos rfl).symm
  | n + 1, mn, le, h => by
    rw [szU_snoc, Nat.zero_add, szD]
    have hn : ¬ nI n = -1 := nI_nn (by omega)
    by_cases c : Q n = true
    · rw [if_pos c, if_pos c, szD_U n (mn + 1) (nI n) (by omega)]
      refine Prod.ext ?_ ?_
      · show mn + 1 + (szU Q n 0 0 (-1)).1 = mn + ((szU Q n 0 0 (-1)).1 + 1)
        rw [Int32.add_comm (szU Q n 0 0 (-1)).1 1, Int32.add_assoc]
      · show (if (szU Q n 0 0 (-1)).2 = -1 then nI n else (szU Q n 0 0 (-1)).2) = (if (if (szU Q n 0 0 (-1)).2 = -1 then nI n else (szU Q n 0 0 (-1)).2) = -1 then le else (if (szU Q n 0 0 (-1)).2 = -1 then nI n else (szU Q n 0 0 (-1)).2))
        by_cases d : (szU Q n 0 0 (-1)).2 = -1
        · rw [if_pos d, if_neg hn]
        · rw [if_neg d, if_neg d]
    · rw [if_neg c, if_neg c, szD_U n mn le (by omega)]
      refine Prod.ext ?_ rfl
      show mn + (szU Q n 0 0 (-1)).1 = mn + ((szU Q n 0 0 (-1)).1 + 0)
      rw [Int32.add_zero]
theorem szD_all {Q : Nat → Bool} : szD Q 100 0 (-1) = szU Q 100 0 0 (-1) := by
  rw [szD_U 100 0 (-1) (by omega), Int32.zero_add]
  refine Prod.ext rfl ?_
  show (if (szU Q 100 0 0 (-1)).2 = -1 then (-1 : Int32) else (szU Q 100 0 0 (-1)).2) = (szU Q 100 0 0 (-1)).2
  by_cases d : (szU Q 100 0 0 (-1)).2 = -1
  · rw [if_pos d, d]
  · rw [if_neg d]
theorem pair_c {v : Int32} : (m_X5_isPairOfBits v = 0 ∧ ¬ ((0 ≤ v ∧ v ≤ 11) ∧ nI (nC v % 10) ≤ 1)) ∨ ((¬ m_X5_isPairOfBits v = 0 ∧ (0 ≤ v ∧ v ≤ 11) ∧ nI (nC v % 10) ≤ 1) ∧ (v = 0 ∨ v = 1 ∨ v = 10 ∨ v = 11)) := by
  by_cases c : 0 ≤ v ∧ v ≤ 11
  · obtain ⟨k, hk, e⟩ := i_nat (n := 11) (by omega) c
    subst e
    exact (by decide +kernel : ∀ k, k < 12 → (m_X5_isPairOfBits (nI k) = 0 ∧ ¬ ((0 ≤ nI k ∧ nI k ≤ 11) ∧ nI (nC (nI k) % 10) ≤ 1)) ∨ ((¬ m_X5_isPairOfBits (nI k) = 0 ∧ (0 ≤ nI k ∧ nI k ≤ 11) ∧ nI (nC (nI k) % 10) ≤ 1) ∧ (nI k = 0 ∨ nI k = 1 ∨ nI k = 10 ∨ nI k = 11))) k (by omega)
  · refine Or.inl ⟨?_, fun z => c z.1⟩
    unfold m_X5_isPairOfBits
    rw [if_neg c]
section R5
variable {fct : Nat → Int32} {fet : Nat → Nat} {Fcd : Nat → Int32} {Fsr : Nat → Nat} {ru jn pn pb jg nn sn tx : Nat} {fso fmi fpa fki fmo fsz frd Fro Fkd Fmo Fst fqo frr Fss Fce : Nat → Int32} {fql Fsq : Nat → Nat} {v0 v1 v2 v3 v4 v5 : Int32}
theorem size_P {p w : Nat} (hP : CtP pb fki fmo fsz frd Fkd Fmo Fst) (rP : RgP pb fmo fsz) (hw : w ≤ 99) : CtP pb fki fmo (upd fsz p (nI w)) frd Fkd Fmo (upd Fst (2 * p + 0) (nI w)) ∧ RgP pb fmo (upd fsz p (nI w)) := by
  refine ⟨fun i hi => ?_, fun i hi => ⟨(rP i hi).1, ?_⟩⟩
  · obtain ⟨x1, x2, x3, x4⟩ := hP i hi
    rw [upd_n9 (show ¬ 2 * i + 1 = 2 * p + 0 by omega)]
    by_cases e : i = p
    · rw [upd_a9 e, upd_a9 (show 2 * i = 2 * p + 0 by omega)]; exact ⟨x1, x2, rfl, x4⟩
    · rw [upd_n9 e, upd_n9 (show ¬ 2 * i = 2 * p + 0 by omega)]; exact ⟨x1, x2, x3, x4⟩
  · by_cases e : i = p
    · rw [upd_a9 e]; exact ⟨nI_pos' (by omega), nI_le (b := 99) hw (by omega)⟩
    · rw [upd_n9 e]; exact (rP i hi).2
theorem round_P {p w : Nat} (hP : CtP pb fki fmo fsz frd Fkd Fmo Fst) : CtP pb fki fmo fsz (upd frd p (nI w)) Fkd Fmo (upd Fst (2 * p + 1) (nI w)) := by
  intro i hi
  obtain ⟨x1, x2, x3, x4⟩ := hP i hi
  rw [upd_n9 (show ¬ 2 * i = 2 * p + 1 by omega)]
  by_cases e : i = p
  · rw [upd_a9 e, upd_a9 (show 2 * i + 1 = 2 * p + 1 by omega)]; exact ⟨x1, x2, x3, rfl⟩
  · rw [upd_n9 e, upd_n9 (show ¬ 2 * i + 1 = 2 * p + 1 by omega)]; exact ⟨x1, x2, x3, x4⟩
theorem szq_run {Q : Nat → Bool} (hQ : ∀ v, v < 100 → (Q v = true ↔ m_X5_firstOtherwise fet fql fso fmi fpa fki fmo (upd fsz (nC v2) (nI v)) frd fct frr sn (nC v1) = -1)) : ∀ (q w : Nat) (mn le : Int32), w + q = 100 → (p_X5_sizes_A_78q1 fet fql fso fmi fpa fki fmo fsz frd fct frr sn v1 v2 q w mn le).2 = szD Q q mn le
  | 0, w, mn, le, h => rfl
  | q + 1, w, mn, le, h => by
    have e : 100 - w - 1 = q := by omega
    rw [p_X5_sizes_A_78q1, szD, e]
    by_cases c : m_X5_firstOtherwise fet fql fso fmi fpa fki fmo (upd fsz (nC v2) (nI q)) frd fct frr sn (nC v1) = -1
    · rw [if_pos c, if_pos ((hQ q (by omega)).mpr c)]; exact szq_run hQ q (w + 1) _ _ (by omega)
    · rw [if_neg c, if_neg (show ¬ Q q = true from fun z => c ((hQ q (by omega)).mp z))]; exact szq_run hQ q (w + 1) _ _ (by omega)
theorem szr_run {Q : Nat → Bool} (hQ : ∀ v, v < 100 → (Q v = true ↔ m_X5_firstOtherwise fet fql fso fmi fpa fki fmo fsz (upd frd (nC v2) (nI v)) fct frr sn (nC v1) = -1)) : ∀ (q w : Nat) (mn le : Int32), w + q = 100 → (p_X5_sizes_A_78 fet fql fso fmi fpa fki fmo fsz frd fct frr sn v1 v2 q w mn le).2 = szD Q q mn le
  | 0, w, mn, le, h => rfl
  | q + 1, w, mn, le, h => by
    have e : 100 - w - 1 = q := by omega
    rw [p_X5_sizes_A_78, szD, e]
    by_cases c : m_X5_firstOtherwise fet fql fso fmi fpa fki fmo fsz (upd frd (nC v2) (nI q)) fct frr sn (nC v1) = -1
    · rw [if_pos c, if_pos ((hQ q (by omega)).mpr c)]; exact szr_run hQ q (w + 1) _ _ (by omega)
    · rw [if_neg c, if_neg (show ¬ Q q = true from fun z => c ((hQ q (by omega)).mp z))]; exact szr_run hQ q (w + 1) _ _ (by omega)
theorem szu_run {Q : Nat → Bool} (hsn : sn < 4) (hQ : ∀ v, v < 100 → (Q v = true ↔ m_X6_firstOther ru (upd Fst (2 * nC v2 + nC v3 / 10) (nI v)) Fro Fmo Fkd Fcd Fsr Fsq Fce sn (nC v1) = -1)) : ∀ (q w : Nat) (mn le : Int32) (y : Nat → Int32), w + q ≤ 100 → (∀ i, ¬ i = 2 * nC v2 + nC v3 / 10 → y i = Fst i) → (p_X6_sizes_79 ru Fro Fmo Fkd Fcd Fsr Fsq Fce (nI sn) v1 v2 v3 q w mn le y).2.1 = (szU Q q w mn le).1 ∧ (p_X6_sizes_79 ru Fro Fmo Fkd Fcd Fsr Fsq Fce (nI sn) v1 v2 v3 q w mn le y).2.2.1 = (szU Q q w mn le).2
  | 0, w, mn, le, y, h, hy => ⟨rfl, rfl⟩
  | q + 1, w, mn, le, y, h, hy => by
    have e : upd y (2 * nC v2 + nC v3 / 10) (nI w) = upd Fst (2 * nC v2 + nC v3 / 10) (nI w) := funext (fun i => by
      by_cases d : i = 2 * nC v2 + nC v3 / 10
      · rw [upd_a9 d, upd_a9 d]
      · rw [upd_n9 d, upd_n9 d]; exact hy i d)
    have hy2 : ∀ i, ¬ i = 2 * nC v2 + nC v3 / 10 → upd Fst (2 * nC v2 + nC v3 / 10) (nI w) i = Fst i := fun i hi => upd_n9 hi
    rw [p_X6_sizes_79, szU, nC_nI (show sn < 2 ^ 31 by omega), e]
    by_cases c : m_X6_firstOther ru (upd Fst (2 * nC v2 + nC v3 / 10) (nI w)) Fro Fmo Fkd Fcd Fsr Fsq Fce sn (nC v1) = -1
    · rw [if_pos c, if_pos ((hQ w (by omega)).mpr c)]
      by_cases d : le = -1
      · rw [if_pos d, if_pos d]; exact szu_run hsn hQ q (w + 1) _ _ _ (by omega) hy2
      · rw [if_neg d, if_neg d]; exact szu_run hsn hQ q (w + 1) _ _ _ (by omega) hy2
    · rw [if_neg c, if_neg (show ¬ Q w = true from fun z => c ((hQ w (by omega)).mp z))]; exact szu_run hsn hQ q (w + 1) _ _ _ (by omega) hy2
theorem sizes_res (hw : mWx fct fet) (hT : TxR fct fet Fcd Fsr ru) (hJ : CtJ fso fmi fpa Fro) (hP : CtP pb fki fmo fsz frd Fkd Fmo Fst) (rJ : RgJ fso fpa) (rP : RgP pb fmo fsz) (hjg : jg ≤ 4) (hpb : pb ≤ 6) (hsn : sn < 4) (hS : RSP fqo fql Fss Fsq) (hq : ∀ q9, q9 < 4 → fql q9 ≤ 40) (hR : ∀ i, i < 40 → frr i = Fce (40 * sn + i)) : m_X5_sizes_A jg pb fet fql fso fmi fpa fki fmo fsz frd fct fqo frr sn v1 v2 v3 = m_X6_sizes pb jg ru Fst Fro Fmo Fkd Fcd Fsr Fsq Fce Fss (nI sn) v1 v2 v3 := by
  unfold m_X5_sizes_A m_X6_sizes
  rw [← ref_eq (jg := jg) (v1 := v1) (pb := pb) hsn hS (hq sn hsn) hR]
  by_cases c : m_X5_refusalOf_A jg pb fql fqo frr sn v1 = 0
  case neg => rw [if_neg c, if_neg c]
  obtain ⟨ok, hm⟩ := ref_ok (hq sn hsn) c
  have hj := mHas_lt (by omega) hm
  rw [if_pos c, if_pos c]
  by_cases b : mHas pb v2 = true
  case neg => rw [if_neg b, if_neg b]
  rw [if_pos b, if_pos b]
  have hf : ∀ (a : Nat → Int32) (x y : Nat → Int32), CtP pb fki fmo x a Fkd Fmo y → RgP pb fmo x → m_X5_firstOtherwise fet fql fso fmi fpa fki fmo x a fct frr sn (nC v1) = m_X6_firstOther ru y Fro Fmo Fkd Fcd Fsr Fsq Fce sn (nC v1) := fun a x y h1 h2 => fo_eq hw hT hJ h1 rJ h2 (show nC v1 < 4 by omega) hpb (hS sn hsn).2 (hq sn hsn) hR ok
  rcases pair_c (v := v3) with ⟨p1, p2⟩ | ⟨⟨p1, p2, p3⟩, p4⟩
  · rw [if_pos p1]
    by_cases d : 0 ≤ v3 ∧ v3 ≤ 11
    · rw [if_pos d, if_neg (fun z => p2 ⟨d, z⟩)]
    · rw [if_neg d]
  · rw [if_neg p1, if_pos p2, if_pos p3]
    have hU : ∀ Q : Nat → Bool, (∀ v, v < 100 → (Q v = true ↔ m_X6_firstOther ru (upd Fst (2 * nC v2 + nC v3 / 10) (nI v)) Fro Fmo Fkd Fcd Fsr Fsq Fce sn (nC v1) = -1)) → (g_X6_sizes_79 ru Fst Fro Fmo Fkd Fcd Fsr Fsq Fce (nI sn) v1 v2 v3).2.1 = (szU Q 100 0 0 (-1)).1 ∧ (g_X6_sizes_79 ru Fst Fro Fmo Fkd Fcd Fsr Fsq Fce (nI sn) v1 v2 v3).2.2.1 = (szU Q 100 0 0 (-1)).2 := fun Q hQ => szu_run hsn hQ (100 - 0) 0 0 (-1) Fst (by omega) (fun i _ => rfl)
    have hz : nC v3 / 10 = 0 → g_X5_sizes_A_78q1 fet fql fso fmi fpa fki fmo fsz frd fct frr sn v1 v2 = ((g_X5_sizes_A_78q1 fet fql fso fmi fpa fki fmo fsz frd fct frr sn v1 v2).1, (g_X6_sizes_79 ru Fst Fro Fmo Fkd Fcd Fsr Fsq Fce (nI sn) v1 v2 v3).2.1, (g_X6_sizes_79 ru Fst Fro Fmo Fkd Fcd Fsr Fsq Fce (nI sn) v1 v2 v3).2.2.1) := fun e => by
      have hQ : ∀ v, v < 100 → (decide (m_X6_firstOther ru (upd Fst (2 * nC v2 + nC v3 / 10) (nI v)) Fro Fmo Fkd Fcd Fsr Fsq Fce sn (nC v1) = -1) = true ↔ m_X6_firstOther ru (upd Fst (2 * nC v2 + nC v3 / 10) (nI v)) Fro Fmo Fkd Fcd Fsr Fsq Fce sn (nC v1) = -1) := fun v _ => decide_eq_true_iff
      obtain ⟨u1, u2⟩ := hU (fun v => decide (m_X6_firstOther ru (upd Fst (2 * nC v2 + nC v3 / 10) (nI v)) Fro Fmo Fkd Fcd Fsr Fsq Fce sn (nC v1) = -1)) hQ
      have d : (g_X5_sizes_A_78q1 fet fql fso fmi fpa fki fmo fsz frd fct frr sn v1 v2).2 = szD (fun v => decide (m_X6_firstOther ru (upd Fst (2 * nC v2 + nC v3 / 10) (nI v)) Fro Fmo Fkd Fcd Fsr Fsq Fce sn (nC v1) = -1)) 100 0 (-1) := szq_run (fun v hv => by
        have s := size_P (p := nC v2) (w := v) hP rP (by omega)
        rw [hf frd _ _ s.1 s.2, ← e]
        exact hQ v hv) (100 - 0) 0 0 (-1) (by omega)
      rw [szD_all] at d
      rw [u1, u2]
      exact Prod.ext rfl d
    have hr : nC v3 / 10 = 1 → g_X5_sizes_A_78 fet fql fso fmi fpa fki fmo fsz frd fct frr sn v1 v2 = ((g_X5_sizes_A_78 fet fql fso fmi fpa fki fmo fsz frd fct frr sn v1 v2).1, (g_X6_sizes_79 ru Fst Fro Fmo Fkd Fcd Fsr Fsq Fce (nI sn) v1 v2 v3).2.1, (g_X6_sizes_79 ru Fst Fro Fmo Fkd Fcd Fsr Fsq Fce (nI sn) v1 v2 v3).2.2.1) := fun e => by
      have hQ : ∀ v, v < 100 → (decide (m_X6_firstOther ru (upd Fst (2 * nC v2 + nC v3 / 10) (nI v)) Fro Fmo Fkd Fcd Fsr Fsq Fce sn (nC v1) = -1) = true ↔ m_X6_firstOther ru (upd Fst (2 * nC v2 + nC v3 / 10) (nI v)) Fro Fmo Fkd Fcd Fsr Fsq Fce sn (nC v1) = -1) := fun v _ => decide_eq_true_iff
      obtain ⟨u1, u2⟩ := hU (fun v => decide (m_X6_firstOther ru (upd Fst (2 * nC v2 + nC v3 / 10) (nI v)) Fro Fmo Fkd Fcd Fsr Fsq Fce sn (nC v1) = -1)) hQ
      have d : (g_X5_sizes_A_78 fet fql fso fmi fpa fki fmo fsz frd fct frr sn v1 v2).2 = szD (fun v => decide (m_X6_firstOther ru (upd Fst (2 * nC v2 + nC v3 / 10) (nI v)) Fro Fmo Fkd Fcd Fsr Fsq Fce sn (nC v1) = -1)) 100 0 (-1) := szr_run (fun v hv => by
        have s := round_P (p := nC v2) (w := v) hP
        rw [hf _ fsz _ s rP, ← e]
        exact hQ v hv) (100 - 0) 0 0 (-1) (by omega)
      rw [szD_all] at d
      rw [u1, u2]
      exact Prod.ext rfl d
    rcases p4 with z | z | z | z <;> subst z
    · rw [if_pos (show (0 : Int32) / 10 = 0 by decide), if_pos (show iRem 0 10 = 0 by decide), if_pos (show nI (nC 0 % 10) = 0 by decide)]
      exact congrArg (fun t => t.2.1) (hz (by decide))
    · rw [if_pos (show (1 : Int32) / 10 = 0 by decide), if_neg (show ¬ iRem 1 10 = 0 by decide), if_neg (show ¬ nI (nC 1 % 10) = 0 by decide)]
      exact congrArg (fun t => t.2.2) (hz (by decide))
    · rw [if_neg (show ¬ (10 : Int32) / 10 = 0 by decide), if_pos (show iRem 10 10 = 0 by decide), if_pos (show nI (nC 10 % 10) = 0 by decide)]
      exact congrArg (fun t => t.2.1) (hr (by decide))
    · rw [if_neg (show ¬ (11 : Int32) / 10 = 0 by decide), if_neg (show ¬ iRem 11 10 = 0 by decide), if_neg (show ¬ nI (nC 11 % 10) = 0 by decide)]
      exact congrArg (fun t => t.2.2) (hr (by decide))
theorem laws_run {f0 f1 f2 f3 f4 f5 : Nat → Int32} {g0 g1 g2 g3 g4 g5 : Nat → Nat} (hW : ∀ t, t < tx → mWx (cAt f0 f1 f2 f3 f4 f5 t) (eAt g0 g1 g2 g3 g4 g5 t)) (hX : ∀ t, t < tx → TxR (cAt f0 f1 f2 f3 f4 f5 t) (eAt g0 g1 g2 g3 g4 g5 t) Fcd Fsr t) (hJ : CtJ fso fmi fpa Fro) (hP : CtP pb fki fmo fsz frd Fkd Fmo Fst) (rJ : RgJ fso fpa) (rP : RgP pb fmo fsz) (hj : nC v1 < 4) (hpb : pb ≤ 6) (hsn : sn < 4) (hl : fql sn = Fsq sn) (hq : fql sn ≤ 40) (hR : ∀ i, i < 40 → frr i = Fce (40 * sn + i)) (hok : fql sn % 3 = 0 ∧ ∀ k, k < fql sn / 3 → mHas pb (frr (3 * k)) = true) : ∀ (q t : Nat) (bi : Int32), t + q ≤ tx → (p_X5_laws_A_19 fql fso fmi fpa fki fmo fsz frd g0 f0 g1 f1 g2 f2 g3 f3 g4 f4 g5 f5 frr sn v1 q t bi).2 = (p_X6_laws_25 Fst Fro Fmo Fkd Fcd Fsr Fsq Fce (nI sn) v1 q t bi).2
  | 0, t, bi, h => rfl
  | q + 1, t, bi, h => by
    rw [p_X5_laws_A_19, p_X6_laws_25, nC_nI (show sn < 2 ^ 31 by omega), fo_eq (hW t (by omega)) (hX t (by omega)) hJ hP rJ rP hj hpb hl hq hR hok, Int32.or_zero]
    split
    · exact laws_run hW hX hJ hP rJ rP hj hpb hsn hl hq hR hok q (t + 1) _ (by omega)
    · exact laws_run hW hX hJ hP rJ rP hj hpb hsn hl hq hR hok q (t + 1) _ (by omega)
theorem laws_res {f0 f1 f2 f3 f4 f5 : Nat → Int32} {g0 g1 g2 g3 g4 g5 : Nat → Nat} (hW : ∀ t, t < tx → mWx (cAt f0 f1 f2 f3 f4 f5 t) (eAt g0 g1 g2 g3 g4 g5 t)) (hX : ∀ t, t < tx → TxR (cAt f0 f1 f2 f3 f4 f5 t) (eAt g0 g1 g2 g3 g4 g5 t) Fcd Fsr t) (hJ : CtJ fso fmi fpa Fro) (hP : CtP pb fki fmo fsz frd Fkd Fmo Fst) (rJ : RgJ fso fpa) (rP : RgP pb fmo fsz) (hjg : jg ≤ 4) (hpb : pb ≤ 6) (hsn : sn < 4) (hS : RSP fqo fql Fss Fsq) (hq : ∀ q9, q9 < 4 → fql q9 ≤ 40) (hR : ∀ i, i < 40 → frr i = Fce (40 * sn + i)) : m_X5_laws_A jg pb tx fql fso fmi fpa fki fmo fsz frd g0 f0 g1 f1 g2 f2 g3 f3 g4 f4 g5 f5 fqo frr sn v1 = m_X6_laws pb jg tx Fst Fro Fmo Fkd Fcd Fsr Fsq Fce Fss (nI sn) v1 := by
  unfold m_X5_laws_A m_X6_laws
  rw [← ref_eq (jg := jg) (v1 := v1) (pb := pb) hsn hS (hq sn hsn) hR]
  by_cases c : m_X5_refusalOf_A jg pb fql fqo frr sn v1 = 0
  · obtain ⟨ok, hm⟩ := ref_ok (hq sn hsn) c
    have hj := mHas_lt (by omega) hm
    rw [if_pos c, if_pos c]
    exact laws_run hW hX hJ hP rJ rP (by omega) hpb hsn (hS sn hsn).2 (hq sn hsn) hR ok (tx - 0) 0 0 (by omega)
  · rw [if_neg c, if_neg c]
theorem swB (hno : ¬ (0 ≤ v0 ∧ v0 ≤ 3)) : m_X6_sheetWrong pb Fss Fsq Fce v0 = -2 := by
  unfold m_X6_sheetWrong
  rw [if_neg hno]
theorem twB (hno : ¬ (0 ≤ v0 ∧ v0 ≤ 3)) : m_X6_toldWrong pb jg Fss Fsq Fce v0 v1 = -2 := by
  unfold m_X6_toldWrong
  rw [swB hno, if_neg (by decide)]
end R5
