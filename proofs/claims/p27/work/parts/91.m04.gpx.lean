/-! a text, read by both -/
abbrev rYq : Type := Bool × Nat × Nat × Int32 × (Nat → Int32) × (Nat → Int32)
section TXS
variable {tx n : Nat} {f ftp : Nat → Int32}
theorem xl_len {ct : Nat → Int32} : ∀ (k : Nat), (xl ct k).length = k
  | 0 => rfl
  | k + 1 => by rw [xl, List.length_append, xl_len k]; rfl
theorem gPe_t {f : Nat → Int32} {n pt : Nat} {e : Nat → Nat} {R : Bool × gT} {y : gTE} (h : gPe f n pt e R = (true, y)) : R.1 = true ∧ R.2.2.1 = 59 ∧ y = (gNx f n R.2, updN e pt R.2.2.2.2.2.1) := by
  unfold gPe at h
  by_cases c : R.1 = true ∧ R.2.2.1 = 59
  · rw [if_pos c] at h
    exact ⟨c.1, c.2, (congrArg Prod.snd h).symm⟩
  · rw [if_neg c] at h
    exact absurd (congrArg Prod.fst h) (by show ¬ false = true; decide)
theorem gPe_n {f : Nat → Int32} {n pt : Nat} {e : Nat → Nat} {R : Bool × gT} {y : gTE} (h : gPe f n pt e R = (false, y)) : ¬ (R.1 = true ∧ R.2.2.1 = 59) ∧ y = (R.2, e) := by
  unfold gPe at h
  by_cases c : R.1 = true ∧ R.2.2.1 = 59
  · rw [if_pos c] at h
    exact absurd (congrArg Prod.fst h) (by show ¬ true = false; decide)
  · rw [if_neg c] at h
    exact ⟨c, (congrArg Prod.snd h).symm⟩
theorem part_same (hy : HY n f ftp) {k za b2 : Nat} {s : gT} {e : Nat → Nat} {cd he cd2 he2 : Nat → Int32} {b : Bool} {a2 o2 : Nat} {bg kk : Int32} (hk : s.2.1 = nI (100 + k) ↔ (m_X6_next_h021 n ftp (gPf tW 96) za = 3 ∧ m_X6_next_h022 n ftp (gPf tW 96) za = kk)) (hA : AL n ftp za s) (hI : gI n s) (hw : s.2.2.2.2.1 ≤ s.2.2.1) (hc : cl cd tx s.2.2.2.2.1 = xl s.2.2.2.2.2 s.2.2.2.2.1)
    (hM : rP tx n ftp (gPf tW 96) kk za s.2.2.2.2.1 cd he b a2 o2 bg cd2 he2) :
    (∀ y, gPt f n k (s, e) = (true, y) → b = true ∧ AL n ftp a2 y.1 ∧ o2 = y.1.2.2.2.2.1 ∧ cl cd2 tx o2 = xl y.1.2.2.2.2.2 y.1.2.2.2.2.1 ∧ gI n y.1 ∧ y.1.2.2.2.2.1 ≤ y.1.2.2.1 ∧ y.2 = updN e k o2) ∧ (∀ y, gPt f n k (s, e) = (false, y) → b = false ∧ nI y.1.2.2.1 = bg) := by
  have hn := hy.2.2
  unfold gPt
  by_cases c : s.2.1 = nI (100 + k)
  · show (∀ y, (if s.2.1 = nI (100 + k) then gPe f n k e (gOrB f n (gLv f n 5) (gNx f n s)) else (false, (s, e))) = (true, y) → _) ∧ (∀ y, (if s.2.1 = nI (100 + k) then gPe f n k e (gOrB f n (gLv f n 5) (gNx f n s)) else (false, (s, e))) = (false, y) → _)
    rw [if_pos c]
    have hkM := hk.mp c
    rcases hM with ⟨-, j9, hj⟩ | ⟨z, -⟩
    · rw [← hA.1] at hj
      have gx := gNx_I (f := f) (s := s) hI.2.1
      have i1 := hI.1
      have hin : Inp tx n ftp 5 0 (gNx f n s) (s.1, 0, s.2.2.2.2.1, 0, cd, he, 1, 1) [] := ⟨gx.1, by show s.2.2.2.2.1 + 0 ≤ (gNx f n s).2.2.1; have := gx.2; omega, AL_nx hy hI.2.1, ⟨rfl, rfl, hc, rfl, fun c hc => absurd hc List.not_mem_nil⟩, rfl, Nat.zero_le _⟩
      obtain ⟨k1, k2⟩ := (lv_cl hy 5).2.2 _ _ _ _ hin trivial (show ¬ (1 : Int32) = 0 by decide)
      have bad : ∀ bg2, Bad tx n ftp (s.1, 0, s.2.2.2.2.1, 0, cd, he, 1, 1) bg2 → b = false ∧ bg2 = bg := fun bg2 ⟨j, a, o, c2, h2, hz⟩ => by
        have z := eRun_1 hj hz
        exact ⟨congrArg Prod.fst z, (congrArg (fun z : rYq => z.2.2.2.1) z).symm⟩
      have good : ∀ u, gOrB f n (gLv f n 5) (gNx f n s) = (true, u) → gI n u ∧ u.2.2.2.2.1 ≤ u.2.2.1 ∧ ((u.2.1 = 59 → b = true ∧ a2 = u.1 ∧ o2 = u.2.2.2.2.1 ∧ cl cd2 tx o2 = xl u.2.2.2.2.2 u.2.2.2.2.1) ∧ (¬ u.2.1 = 59 → b = false ∧ nI u.2.2.1 = bg)) := by
        intro u e1
        obtain ⟨y, P, ⟨o1, o2', ⟨C, o3, o4⟩, o5, o6⟩, ⟨q1, q2⟩, q3⟩ := k1 u e1
        obtain ⟨r1, r2, r3, r4, r5, r6⟩ := (gLv_gd (f := f) hn 5).2.2 _ u 0 gx.1 (by show s.2.2.2.2.1 + 0 ≤ (gNx f n s).2.2.1; have := gx.2; omega) e1
        refine ⟨r1, r3, fun c5 => ?_, fun c5 => ?_⟩
        · obtain ⟨j, o, c2, h2, hz, hz2, hz3⟩ := st_semi o3 o5 (tk_59 o2'.2.2 c5)
          obtain ⟨i, hi⟩ := o1
          have hz4 : eRun tx n ftp (gPf tW 96) (j + i) s.1 0 s.2.2.2.2.1 0 cd he 1 1 = some (true, m_X6_next_h019 n ftp y.1, o, m_X6_next_h020 n ftp y.1, c2, h2) := (hi j).trans hz
          have z := eRun_1 hj hz4
          have z1 : a2 = m_X6_next_h019 n ftp y.1 := congrArg (fun z : rYq => z.2.1) z
          have z2 : o2 = o := congrArg (fun z : rYq => z.2.2.1) z
          have z3 : cd2 = c2 := congrArg (fun z : rYq => z.2.2.2.2.1) z
          have z4 : o = u.2.2.2.2.1 := by
            rw [← o4] at hz2
            have := congrArg List.length hz2
            rw [cl_len, xl_len] at this
            exact this
          refine ⟨congrArg Prod.fst z, z1.trans o2'.1.symm, z2.trans z4, ?_⟩
          rw [z2, z3, hz2, o4]
        · refine bad _ (o1.bad ?_)
          have hl2 : (P ++ []).length < 2 ^ 31 := by have := r1.1; have := r1.2.1; omega
          by_cases c6 : u.2.1 = 41
          · rw [o2'.2.1]; exact bad_close o3 o5 (tk_41 o2'.2.2 c6)
          · exact stop_no o3 o2' hl2 q1 (fun z => q2 (decide_eq_true z)) (fun z => q3 (decide_eq_true z)) c6 c5
      refine ⟨fun y hg => ?_, fun y hg => ?_⟩
      · obtain ⟨g1, g2, g3⟩ := gPe_t hg
        subst g3
        obtain ⟨r1, r3, r5, -⟩ := good _ (Prod.ext g1 rfl)
        obtain ⟨t1, t2, t3, t4⟩ := r5 g2
        have gy := gNx_I (f := f) (s := (gOrB f n (gLv f n 5) (gNx f n s)).2) r1.2.1
        refine ⟨t1, ?_, t3, t4, gy.1, ?_, ?_⟩
        · rw [t2]; exact AL_nx hy r1.2.1
        · exact Nat.le_trans r3 (Nat.le_trans r1.1 gy.2)
        · rw [t3]
      · obtain ⟨g1, g2⟩ := gPe_n hg
        subst g2
        cases hR : gOrB f n (gLv f n 5) (gNx f n s) with
        | mk rb ru =>
          cases rb with
          | false => exact bad _ (k2 ru hR)
          | true =>
            obtain ⟨r1, r3, -, r6⟩ := good ru hR
            exact r6 (fun z => g1 (by rw [hR]; exact ⟨rfl, z⟩))
    · exact absurd hkM z
  · show (∀ y, (if s.2.1 = nI (100 + k) then gPe f n k e (gOrB f n (gLv f n 5) (gNx f n s)) else (false, (s, e))) = (true, y) → _) ∧ (∀ y, (if s.2.1 = nI (100 + k) then gPe f n k e (gOrB f n (gLv f n 5) (gNx f n s)) else (false, (s, e))) = (false, y) → _)
    rw [if_neg c]
    refine ⟨fun y hg => absurd (congrArg Prod.fst hg) (by show ¬ false = true; decide), fun y hg => ?_⟩
    have e2 : (s, e) = y := congrArg Prod.snd hg
    subst e2
    rcases hM with ⟨z, -⟩ | ⟨-, z1, z2⟩
    · exact absurd (hk.mpr z) c
    · exact ⟨z1, by rw [z2]; exact hA.2.1⟩
/-- THE SAME READING -/
theorem text_same (hy : HY n f ftp) {t0 m0 : Int32} {p0 : Nat} {ct fcd fhe ycd : Nat → Int32} {e0 : Nat → Nat} {b zok : Bool} {y : gTE} {zbg : Int32} {o1 o2 o3 : Nat} (hX : gParts f n ((0, t0, p0, m0, 0, ct), e0) = (b, y)) (hM : rT tx n ftp (gPf tW 96) fcd fhe zok zbg ycd o1 o2 o3) :
    b = zok ∧ nI y.1.2.2.1 = zbg ∧ (b = true → y.2 0 = o1 ∧ y.2 1 = o2 ∧ y.2 2 = o3 ∧ cl ycd tx o3 = xl y.1.2.2.2.2.2 o3) := by
  unfold gParts at hX
  have h00 : (0 : Nat) ≤ n := Nat.zero_le _
  have A0 : AL n ftp 0 (gNx f n (0, t0, p0, m0, 0, ct)) := AL_nx (s := (0, t0, p0, m0, 0, ct)) hy h00
  have I0 := (gNx_I (f := f) (n := n) (s := (0, t0, p0, m0, 0, ct)) h00).1
  have key0 := fun {za : Nat} {s : gT} (h : AL n ftp za s) => (tk_key0 h.2.2 : s.2.1 = 100 ↔ _)
  have key1 := fun {za : Nat} {s : gT} (h : AL n ftp za s) => (tk_key1 h.2.2 : s.2.1 = 101 ↔ _)
  have key2 := fun {za : Nat} {s : gT} (h : AL n ftp za s) => (tk_key2 h.2.2 : s.2.1 = 102 ↔ _)
  rcases hM with ⟨hb, a2, o, c2, h2, p⟩ | ⟨a1, b1, c1, h1, p, hM⟩
  · obtain ⟨s1, s2⟩ := part_same (tx := tx) (k := 0) (b2 := 0) (e := e0) hy (key0 A0) A0 I0 (Nat.zero_le _) rfl p
    rcases gBind_cs hX with ⟨e1, eb⟩ | ⟨u, e1, e2⟩
    · exact ⟨eb.trans hb.symm, (s2 _ e1).2, fun z => absurd (eb.symm.trans z) (by decide)⟩
    · exact absurd (s1 _ e1).1 (by decide)
  · obtain ⟨s1, s2⟩ := part_same (tx := tx) (k := 0) (b2 := 0) (e := e0) hy (key0 A0) A0 I0 (Nat.zero_le _) rfl p
    rcases gBind_cs hX with ⟨e1, eb⟩ | ⟨u, e1, hX⟩
    · exact absurd (s2 _ e1).1 (by decide)
    · obtain ⟨-, A1, w1, x1, I1, l1, u1⟩ := s1 _ e1
      subst w1
      rcases hM with ⟨hb, a2, o, c2, h2, p⟩ | ⟨a2, b2, c2, h2, p, hM⟩
      · obtain ⟨s1, s2⟩ := part_same (tx := tx) (k := 1) (b2 := 0) (e := u.2) hy (key1 A1) A1 I1 l1 x1 p
        rcases gBind_cs hX with ⟨e1, eb⟩ | ⟨v, e1, e2⟩
        · exact ⟨eb.trans hb.symm, (s2 _ e1).2, fun z => absurd (eb.symm.trans z) (by decide)⟩
        · exact absurd (s1 _ e1).1 (by decide)
      · obtain ⟨s1, s2⟩ := part_same (tx := tx) (k := 1) (b2 := 0) (e := u.2) hy (key1 A1) A1 I1 l1 x1 p
        rcases gBind_cs hX with ⟨e1, eb⟩ | ⟨v, e1, hX⟩
        · exact absurd (s2 _ e1).1 (by decide)
        · obtain ⟨-, A2, w2, x2, I2, l2, u2⟩ := s1 _ e1
          subst w2
          rcases hM with ⟨hb, a3, o, c3, h3, p⟩ | ⟨a3, b3, h3, p, hbg, hM⟩
          · obtain ⟨s1, s2⟩ := part_same (tx := tx) (k := 2) (b2 := 0) (e := v.2) hy (key2 A2) A2 I2 l2 x2 p
            rcases gBind_cs hX with ⟨e1, eb⟩ | ⟨w, e1, e2⟩
            · exact ⟨eb.trans hb.symm, (s2 _ e1).2, fun z => absurd (eb.symm.trans z) (by decide)⟩
            · exact absurd (s1 _ e1).1 (by decide)
          · obtain ⟨s1, s2⟩ := part_same (tx := tx) (k := 2) (b2 := 0) (e := v.2) hy (key2 A2) A2 I2 l2 x2 p
            rcases gBind_cs hX with ⟨e1, eb⟩ | ⟨w, e1, hX⟩
            · exact absurd (s2 _ e1).1 (by decide)
            · obtain ⟨-, A3, w3, x3, I3, l3, u3⟩ := s1 _ e1
              have hX : (decide (w.1.2.1 = 0), w) = (b, y) := hX
              have hb1 : decide (w.1.2.1 = 0) = b := congrArg Prod.fst hX
              have hy1 : w = y := congrArg Prod.snd hX
              subst hy1
              refine ⟨?_, hbg ▸ A3.2.1, fun _ => ⟨?_, ?_, ?_, ?_⟩⟩
              · rcases hM with ⟨z1, z2⟩ | ⟨z1, z2⟩
                · rw [← hb1, z1]; exact decide_eq_true ((tk_zero A3.2.2).mpr z2)
                · rw [← hb1, z1]; exact decide_eq_false (fun z => z2 ((tk_zero A3.2.2).mp z))
              · rw [u3, u2, u1]; rfl
              · rw [u3, u2]; rfl
              · rw [u3]; rfl
              · rw [x3, w3]
end TXS
