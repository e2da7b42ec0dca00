/-! what both sides hold alike, all of it: tape, numbers, courts, texts -/
def QT (td : Nat) (fb Ftp : Nat → Int32) : Prop := ∀ i, i < td → fb i = Ftp i ∧ 0 ≤ fb i ∧ fb i ≤ 255
theorem qt_hy {td : Nat} {fb Ftp : Nat → Int32} (htd : td ≤ 160) (h : QT td fb Ftp) : HY td fb Ftp := ⟨fun i hi => (h i hi).1, fun i hi => by rw [← (h i hi).1]; exact (h i hi).2, htd⟩
theorem qt_add {td : Nat} {fb Ftp : Nat → Int32} {v : Int32} (h : QT td fb Ftp) (hv : 0 ≤ v ∧ v ≤ 255) : QT (td + 1) (upd fb td (nI (nC v))) (upd Ftp td (nI (nC v))) := by
  intro i hi
  rw [← nC_eq hv.1]
  by_cases c : i = td
  · rw [upd_a9 c, upd_a9 c]; exact ⟨rfl, hv⟩
  · rw [upd_n9 c, upd_n9 c]; exact h i (by omega)
theorem feed_loop {v1 v2 v3 v4 v5 : Int32} (h1 : 0 ≤ v1 ∧ v1 ≤ 255) (h2 : 0 ≤ v2 ∧ v2 ≤ 255) (h3 : 0 ≤ v3 ∧ v3 ≤ 255) (h4 : 0 ≤ v4 ∧ v4 ≤ 255) (h5 : 0 ≤ v5 ∧ v5 ≤ 255) : ∀ (q k : Nat) (y z : Nat → Int32) (td : Nat), td + q ≤ 160 → QT td y z → (p_X5_feed_72 v1 v2 v3 v4 v5 q k y td).2.2 = (p_X6_feed_68 v1 v2 v3 v4 v5 q k z td).2.2 ∧ QT (p_X5_feed_72 v1 v2 v3 v4 v5 q k y td).2.2 (p_X5_feed_72 v1 v2 v3 v4 v5 q k y td).2.1 (p_X6_feed_68 v1 v2 v3 v4 v5 q k z td).2.1
  | 0, k, y, z, td, hl, hq => ⟨rfl, hq⟩
  | q + 1, k, y, z, td, hl, hq => by
    have n0 : ¬ 160 ≤ nI td := fun w => absurd (nI_le1 (a := 160) (b := td) (by omega) (by omega) w) (by omega)
    have hA : m_X1_addg_h06 td = td + 1 := by unfold m_X1_addg_h06; exact if_neg n0
    have hB : ∀ x : Int32, m_X1_addg_b0 td y x = upd y td x := fun x => by unfold m_X1_addg_b0; exact if_neg n0
    rw [p_X5_feed_72, p_X6_feed_68]
    simp only [hA, hB]
    by_cases c0 : nI k = 0
    · simp only [if_pos c0]; exact feed_loop h1 h2 h3 h4 h5 q (k + 1) _ _ (td + 1) (by omega) (qt_add hq h1)
    simp only [if_neg c0]
    by_cases c1 : nI k = 1
    · simp only [if_pos c1]; exact feed_loop h1 h2 h3 h4 h5 q (k + 1) _ _ (td + 1) (by omega) (qt_add hq h2)
    simp only [if_neg c1]
    by_cases c2 : nI k = 2
    · simp only [if_pos c2]; exact feed_loop h1 h2 h3 h4 h5 q (k + 1) _ _ (td + 1) (by omega) (qt_add hq h3)
    simp only [if_neg c2]
    by_cases c3 : nI k = 3
    · simp only [if_pos c3]; exact feed_loop h1 h2 h3 h4 h5 q (k + 1) _ _ (td + 1) (by omega) (qt_add hq h4)
    simp only [if_neg c3]
    exact feed_loop h1 h2 h3 h4 h5 q (k + 1) _ _ (td + 1) (by omega) (qt_add hq h5)
theorem feed_all {td : Nat} {fb Ftp : Nat → Int32} {v0 v1 v2 v3 v4 v5 : Int32} (htd : td ≤ 160) (h : QT td fb Ftp) : m_X5_feed td fb v0 v1 v2 v3 v4 v5 = m_X6_feed td Ftp v0 v1 v2 v3 v4 v5 ∧ m_X5_feed_rd6 td fb v0 v1 v2 v3 v4 v5 = m_X6_feed_h07 td Ftp v0 v1 v2 v3 v4 v5 ∧ QT (m_X5_feed_rd6 td fb v0 v1 v2 v3 v4 v5) (m_X5_feed_b0 td fb v0 v1 v2 v3 v4 v5) (m_X6_feed_tp td Ftp v0 v1 v2 v3 v4 v5) := by
  unfold m_X5_feed m_X6_feed m_X5_feed_rd6 m_X6_feed_h07 m_X5_feed_b0 m_X6_feed_tp g_X5_feed_72 g_X6_feed_68
  by_cases n1 : v0 < 1
  · have c : ¬ (1 ≤ v0 ∧ v0 ≤ 5) := fun z => absurd z.1 (Int32.not_le.mpr n1)
    simp only [if_pos n1, if_neg c]; exact ⟨trivial, trivial, h⟩
  have p1 : 1 ≤ v0 := Int32.not_lt.mp n1
  have e0 : v0 = nI (nC v0) := nC_eq (nC_1 p1)
  by_cases n2 : 5 < nI (nC v0)
  · have c : ¬ (1 ≤ v0 ∧ v0 ≤ 5) := fun z => by rw [← e0] at n2; exact absurd z.2 (Int32.not_le.mpr n2)
    simp only [if_neg n1, if_pos n2, if_neg c]; exact ⟨trivial, trivial, h⟩
  have c : 1 ≤ v0 ∧ v0 ≤ 5 := ⟨p1, by rw [← e0] at n2; exact Int32.not_lt.mp n2⟩
  simp only [if_neg n1, if_neg n2, if_pos c]
  by_cases c1 : 0 ≤ v1 ∧ v1 ≤ 255
  case neg => simp only [if_neg c1]; exact ⟨trivial, trivial, h⟩
  by_cases c2 : 0 ≤ v2 ∧ v2 ≤ 255
  case neg => simp only [if_pos c1, if_neg c2]; exact ⟨trivial, trivial, h⟩
  by_cases c3 : 0 ≤ v3 ∧ v3 ≤ 255
  case neg => simp only [if_pos c1, if_pos c2, if_neg c3]; exact ⟨trivial, trivial, h⟩
  by_cases c4 : 0 ≤ v4 ∧ v4 ≤ 255
  case neg => simp only [if_pos c1, if_pos c2, if_pos c3, if_neg c4]; exact ⟨trivial, trivial, h⟩
  by_cases c5 : 0 ≤ v5 ∧ v5 ≤ 255
  case neg => simp only [if_pos c1, if_pos c2, if_pos c3, if_pos c4, if_neg c5]; exact ⟨trivial, trivial, h⟩
  simp only [if_pos c1, if_pos c2, if_pos c3, if_pos c4, if_pos c5]
  have h31 := nC_31 v0
  have h5' : nC v0 ≤ 5 := nC_le (n := 5) (by omega) ⟨nC_1 p1, c.2⟩
  by_cases c6 : nI (td + nC v0) ≤ 160
  case neg => simp only [if_neg c6]; exact ⟨trivial, trivial, h⟩
  simp only [if_pos c6]
  have hb := nI_le1 (a := td + nC v0) (b := 160) (by omega) (by omega) c6
  obtain ⟨g1, g2⟩ := feed_loop c1 c2 c3 c4 c5 (nC v0 - 0) 0 fb Ftp td (by omega) h
  exact ⟨by rw [g1], g1, g2⟩
theorem count_res {pb jg td tx lw : Nat} {v0 : Int32} : m_X5_count jg pb lw tx td v0 = m_X6_count pb jg td tx lw v0 := rfl
theorem force_cond {tx : Nat} {v : Int32} (h1 : 1 ≤ tx) (h6 : tx ≤ 6) : (0 ≤ v ∧ v ≤ nI (tx - 1) ∧ ¬ v < 0 ∧ nI (nC v) < nI tx) ∨ (¬ (0 ≤ v ∧ v ≤ nI (tx - 1)) ∧ (v < 0 ∨ ¬ nI (nC v) < nI tx)) := by
  by_cases c : v < 0
  · exact Or.inr ⟨fun z => absurd z.1 (Int32.not_le.mpr c), Or.inl c⟩
  · have p : 0 ≤ v := Int32.not_lt.mp c
    have e : v = nI (nC v) := nC_eq p
    have h31 := nC_31 v
    by_cases d : nC v < tx
    · refine Or.inl ⟨p, ?_, c, nI_lt d (by omega)⟩
      rw [e]; exact nI_le (by omega) (by omega)
    · refine Or.inr ⟨fun z => ?_, Or.inr (fun z => d (nI_lt1 h31 (by omega) z))⟩
      have z2 := z.2
      rw [e] at z2
      have := nI_le1 h31 (by omega) z2
      omega
theorem force_all {tx lw : Nat} {v : Int32} (h1 : 1 ≤ tx) (h6 : tx ≤ 6) : m_X5_force lw tx v = m_X6_force tx lw v ∧ m_X5_force_nw11 lw tx v = m_X6_force_h011 tx lw v := by
  unfold m_X5_force m_X6_force m_X5_force_nw11 m_X6_force_h011
  rcases force_cond (v := v) h1 h6 with ⟨a, b, c, d⟩ | ⟨a, b⟩
  · have ab : 0 ≤ v ∧ v ≤ nI (tx - 1) := ⟨a, b⟩
    simp only [if_pos ab, if_neg c, if_pos d]; exact ⟨trivial, trivial⟩
  · by_cases c : v < 0
    · simp only [if_neg a, if_pos c]; exact ⟨trivial, trivial⟩
    · simp only [if_neg a, if_neg c, if_neg (b.resolve_left c)]; exact ⟨trivial, trivial⟩
theorem cl_xl {f g : Nat → Int32} {tx : Nat} : ∀ {k : Nat}, cl f tx k = xl g k → ∀ i, i < k → trX (g i) = f (200 * tx + i)
  | 0, h, i, hi => by omega
  | k + 1, h, i, hi => by
    rw [cl, xl] at h
    obtain ⟨e1, e2⟩ := List.append_inj h (by rw [cl_len, xl_len])
    by_cases c : i = k
    · subst c; exact (List.cons.inj e2).1.symm
    · exact cl_xl e1 i (by omega)
theorem text_all {td tx : Nat} {fb Ftp ct yct Fcd Fhe ycd : Nat → Int32} {e0 yet : Nat → Nat} {ysr : Nat → Nat} {t0 m0 zt zm r5 r6 zbg : Int32} {za zp zw o1 o2 o3 z5 z6 : Nat} {zok : Bool} (hQ : QT td fb Ftp) (htd : td ≤ 160) (hX : gRead fb td tx ((0, t0, 0, m0, 0, ct), e0) r5 z5 ((za, zt, zp, zm, zw, yct), yet)) (hM : rT tx td Ftp (gPf tW 96) Fcd Fhe zok zbg ycd o1 o2 o3) (hV : (zok = true ∧ r6 = nI tx ∧ z6 = tx + 1 ∧ mWf ycd ysr tx ∧ ysr (4 * tx) = 0 ∧ ysr (4 * tx + 1) = o1 ∧ ysr (4 * tx + 2) = o2 ∧ ysr (4 * tx + 3) = o3) ∨ (zok = false ∧ r6 = -100 - zbg ∧ z6 = tx)) : r5 = r6 ∧ z5 = z6 ∧ (z5 = tx + 1 → TxR yct yet ycd ysr tx) := by
  have hy := qt_hy htd hQ
  rcases hX with ⟨e, r, t⟩ | ⟨e, r, t⟩
  · obtain ⟨b, z, c⟩ := text_same hy e hM
    obtain ⟨d1, d2, d3, d4⟩ := c rfl
    rcases hV with ⟨q1, q2, q3, q4, q5, q6, q7, q8⟩ | ⟨q1, -⟩
    · have d1 : yet 0 = o1 := d1
      have d2 : yet 1 = o2 := d2
      have d3 : yet 2 = o3 := d3
      have d4 : cl ycd tx o3 = xl yct o3 := d4
      refine ⟨r.trans q2.symm, t.trans q3.symm, fun _ => ⟨fun i hi => cl_xl d4 i (by rw [← d3]; exact hi), q5, fun pt hp => ?_⟩⟩
      have w : pt = 0 ∨ pt = 1 ∨ pt = 2 := by omega
      rcases w with w | w | w <;> subst w
      · rw [d1]; exact q6
      · rw [d2]; exact q7
      · rw [d3]; exact q8
    · rw [q1] at b; exact absurd b (by decide)
  · obtain ⟨b, z, c⟩ := text_same hy e hM
    rcases hV with ⟨q1, -⟩ | ⟨q1, q2, q3⟩
    · rw [q1] at b; exact absurd b (by decide)
    · have z : nI zp = zbg := z
      have r : r5 = -100 - nI zp := r
      exact ⟨by rw [r, q2, z], t.trans q3.symm, fun w => absurd (t.symm.trans w) (by omega)⟩
