/-! what each case weighs at each turn: the same on both sides -/
theorem wUp_1 {r k u p : Nat} {y : Nat → Int32} {x : Int32} : wUp r k y p x u = if r = k ∧ u = p then x else y u := by
  unfold wUp
  by_cases c : k = r
  · rw [if_pos c]
    by_cases d : u = p
    · rw [upd_a9 d, if_pos (show r = k ∧ u = p from ⟨c.symm, d⟩)]
    · rw [upd_n9 d, if_neg (show ¬ (r = k ∧ u = p) from fun z => d z.2)]
  · rw [if_neg c, if_neg (show ¬ (r = k ∧ u = p) from fun z => c z.1.symm)]
theorem wUp_at {k t u p : Nat} {y0 y1 y2 y3 y4 y5 : Nat → Int32} {x : Int32} (ht : t < 6) : wAt (wUp 0 k y0 p x) (wUp 1 k y1 p x) (wUp 2 k y2 p x) (wUp 3 k y3 p x) (wUp 4 k y4 p x) (wUp 5 k y5 p x) t u = if t = k ∧ u = p then x else wAt y0 y1 y2 y3 y4 y5 t u := by
  have w : t = 0 ∨ t = 1 ∨ t = 2 ∨ t = 3 ∨ t = 4 ∨ t = 5 := by omega
  rcases w with e | e | e | e | e | e <;> subst e <;> exact wUp_1
noncomputable def wTr (r : Nat × (Nat → Int32) × (Nat → Int32) × (Nat → Int32) × (Nat → Int32) × (Nat → Int32) × (Nat → Int32)) (t u : Nat) : Int32 := wAt r.2.1 r.2.2.1 r.2.2.2.1 r.2.2.2.2.1 r.2.2.2.2.2.1 r.2.2.2.2.2.2 t u
theorem upd36 {f X : Nat → Int32} {x : Int32} {k p q t u : Nat} (hx : x = X p) (hu : u < 6) (hp : p < 6) : (if t = k ∧ p + 1 ≤ u ∧ u < p + 1 + q then X u else upd f (6 * k + p) x (6 * t + u)) = if t = k ∧ p ≤ u ∧ u < p + (q + 1) then X u else f (6 * t + u) := by
  by_cases d1 : t = k ∧ p + 1 ≤ u ∧ u < p + 1 + q
  · rw [if_pos d1, if_pos (show t = k ∧ p ≤ u ∧ u < p + (q + 1) by omega)]
  · rw [if_neg d1]
    by_cases d2 : t = k ∧ u = p
    · rw [upd_a9 (show 6 * t + u = 6 * k + p by omega), if_pos (show t = k ∧ p ≤ u ∧ u < p + (q + 1) by omega), hx, d2.2]
    · rw [upd_n9 (show ¬ 6 * t + u = 6 * k + p by omega), if_neg (show ¬ (t = k ∧ p ≤ u ∧ u < p + (q + 1)) by omega)]
section R6
variable {fct : Nat → Int32} {fet : Nat → Nat} {Fcd : Nat → Int32} {Fsr : Nat → Nat} {ru jn pn pb jg nn : Nat} {fso fmi fpa fki fmo fsz frd Fro Fkd Fmo Fst ffa fga : Nat → Int32} {v0 v1 v2 : Int32}
theorem tread_J {a b c ro : Nat → Int32} (hj : jn < 4) (hJ : CtJ a b c ro) (rJ : RgJ a c) : CtJ (m_X0_tread_n2 jn a b) (upd b jn (b jn + 1)) c (if iRem (ro (3 * jn + 1) + 1) 10 = 0 then upd (upd ro (3 * jn + 1) (ro (3 * jn + 1) + 1)) (3 * jn) (m_X6_within (ro (3 * jn) + 1) 0 20) else upd (upd ro (3 * jn + 1) (ro (3 * jn + 1) + 1)) (3 * jn) (ro (3 * jn))) ∧ RgJ (m_X0_tread_n2 jn a b) c := by
  obtain ⟨a1, a2, a3⟩ := hJ jn hj
  have h1 := (rJ jn hj).1
  have hu := sole_up h1
  unfold m_X0_tread_n2
  rw [← a1, ← a2]
  by_cases d : iRem (b jn + 1) 10 = 0
  · rw [if_pos d, if_pos d, hu.1]
    refine ⟨fun j h => ?_, fun j h => ⟨?_, (rJ j h).2⟩⟩
    · obtain ⟨u1, u2, u3⟩ := upd2 (F := ro) (j := jn) (k := j) (b := b jn + 1) (c := m_X6_within (a jn + 1) 0 20)
      rw [u1, u2, u3, upd_if, upd_if, (hJ j h).1, (hJ j h).2.1, (hJ j h).2.2]
      exact ⟨rfl, rfl, rfl⟩
    · rw [upd_if]; split
      · exact hu.2
      · exact (rJ j h).1
  · rw [if_neg d, if_neg d]
    refine ⟨fun j h => ?_, rJ⟩
    obtain ⟨u1, u2, u3⟩ := upd2 (F := ro) (j := jn) (k := j) (b := b jn + 1) (c := a jn)
    rw [u1, u2, u3, upd_if, ← (hJ j h).1, (hJ j h).2.1, (hJ j h).2.2]
    refine ⟨?_, rfl, rfl⟩
    by_cases e : j = jn
    · rw [if_pos e, e]
    · rw [if_neg e]
theorem tread_run (hj : jn < 4) : ∀ (q i i' : Nat) (a b c ro : Nat → Int32), CtJ a b c ro → RgJ a c → CtJ (p_X5_weighCases_37 jn q i a b).2.1 (p_X5_weighCases_37 jn q i a b).2.2 c (p_X6_tellsPlaces_104 jn q i' ro).2 ∧ RgJ (p_X5_weighCases_37 jn q i a b).2.1 c
  | 0, i, i', a, b, c, ro, hJ, rJ => ⟨hJ, rJ⟩
  | q + 1, i, i', a, b, c, ro, hJ, rJ => by
    rw [p_X5_weighCases_37, p_X6_tellsPlaces_104]
    obtain ⟨x1, x2⟩ := tread_J hj hJ rJ
    by_cases d : iRem (ro (3 * jn + 1) + 1) 10 = 0
    · rw [if_pos d] at x1 ⊢
      exact tread_run hj q (i + 1) (i' + 1) _ _ _ _ x1 x2
    · rw [if_neg d] at x1 ⊢
      exact tread_run hj q (i + 1) (i' + 1) _ _ _ _ x1 x2
theorem p37_add : ∀ (m n i : Nat) (a b : Nat → Int32), p_X5_weighCases_37 jn (m + n) i a b = p_X5_weighCases_37 jn n (i + m) (p_X5_weighCases_37 jn m i a b).2.1 (p_X5_weighCases_37 jn m i a b).2.2
  | 0, n, i, a, b => by rw [Nat.zero_add]; rfl
  | m + 1, n, i, a, b => by
    rw [show m + 1 + n = (m + n) + 1 by omega, p_X5_weighCases_37, p37_add m n (i + 1), show i + 1 + m = i + (m + 1) by omega]
    rfl
theorem g37_s {k : Nat} : g_X5_weighCases_37 fso fmi jn nn (k + 1) = p_X5_weighCases_37 jn nn (0 + k * nn) (g_X5_weighCases_37 fso fmi jn nn k).2.1 (g_X5_weighCases_37 fso fmi jn nn k).2.2 := by
  unfold g_X5_weighCases_37
  rw [Nat.sub_zero, Nat.sub_zero, Nat.succ_mul, p37_add]
theorem wc18 {k : Nat} {X : Nat → Int32} (hX : ∀ p, p < pb → (if v2 = 0 then m_X0_go jn p nn ((g_X5_weighCases_37 fso fmi jn nn k).2.1) ((g_X5_weighCases_37 fso fmi jn nn k).2.2) fpa fki fmo fsz frd fct fet else m_X0_verdict jn p (m_X0_go_n2 jn p nn ((g_X5_weighCases_37 fso fmi jn nn k).2.1) ((g_X5_weighCases_37 fso fmi jn nn k).2.2) fpa fki fmo fsz frd fct fet) (m_X0_go_n3 jn p nn ((g_X5_weighCases_37 fso fmi jn nn k).2.1) ((g_X5_weighCases_37 fso fmi jn nn k).2.2) fpa fki fmo fsz frd fct fet) fmo (m_X0_go_n7 jn p nn ((g_X5_weighCases_37 fso fmi jn nn k).2.1) ((g_X5_weighCases_37 fso fmi jn nn k).2.2) fpa fki fmo fsz frd fct fet) frd fct fet (m_X0_go jn p nn ((g_X5_weighCases_37 fso fmi jn nn k).2.1) ((g_X5_weighCases_37 fso fmi jn nn k).2.2) fpa fki fmo fsz frd fct fet)) = X p) : ∀ (q p : Nat) (y0 y1 y2 y3 y4 y5 : Nat → Int32), p + q ≤ pb → ∀ t u, t < 6 → wTr (p_X5_weighCases_18 fet fso fmi fpa fki fmo fsz frd fct jn nn v2 k q p y0 y1 y2 y3 y4 y5) t u = if t = k ∧ p ≤ u ∧ u < p + q then X u else wAt y0 y1 y2 y3 y4 y5 t u
  | 0, p, y0, y1, y2, y3, y4, y5, h, t, u, ht => (if_neg (show ¬ (t = k ∧ p ≤ u ∧ u < p + 0) by omega)).symm
  | q + 1, p, y0, y1, y2, y3, y4, y5, h, t, u, ht => by
    have fin : (if t = k ∧ p + 1 ≤ u ∧ u < p + 1 + q then X u else if t = k ∧ u = p then X p else wAt y0 y1 y2 y3 y4 y5 t u) = if t = k ∧ p ≤ u ∧ u < p + (q + 1) then X u else wAt y0 y1 y2 y3 y4 y5 t u := by
      by_cases d1 : t = k ∧ p + 1 ≤ u ∧ u < p + 1 + q
      · rw [if_pos d1, if_pos (show t = k ∧ p ≤ u ∧ u < p + (q + 1) by omega)]
      · rw [if_neg d1]
        by_cases d2 : t = k ∧ u = p
        · rw [if_pos d2, if_pos (show t = k ∧ p ≤ u ∧ u < p + (q + 1) by omega), d2.2]
        · rw [if_neg d2, if_neg (show ¬ (t = k ∧ p ≤ u ∧ u < p + (q + 1)) by omega)]
    have h0 := hX p (by omega)
    rw [p_X5_weighCases_18]
    by_cases c : v2 = 0
    · rw [if_pos c] at h0 ⊢
      rw [h0, wc18 hX q (p + 1) _ _ _ _ _ _ (by omega) t u ht, wUp_at ht]
      exact fin
    · rw [if_neg c] at h0 ⊢
      rw [h0, wc18 hX q (p + 1) _ _ _ _ _ _ (by omega) t u ht, wUp_at ht]
      exact fin
theorem wc3 {X : Nat → Nat → Int32} (hX : ∀ k p, k < pb → p < pb → (if v2 = 0 then m_X0_go jn p nn ((g_X5_weighCases_37 fso fmi jn nn k).2.1) ((g_X5_weighCases_37 fso fmi jn nn k).2.2) fpa fki fmo fsz frd fct fet else m_X0_verdict jn p (m_X0_go_n2 jn p nn ((g_X5_weighCases_37 fso fmi jn nn k).2.1) ((g_X5_weighCases_37 fso fmi jn nn k).2.2) fpa fki fmo fsz frd fct fet) (m_X0_go_n3 jn p nn ((g_X5_weighCases_37 fso fmi jn nn k).2.1) ((g_X5_weighCases_37 fso fmi jn nn k).2.2) fpa fki fmo fsz frd fct fet) fmo (m_X0_go_n7 jn p nn ((g_X5_weighCases_37 fso fmi jn nn k).2.1) ((g_X5_weighCases_37 fso fmi jn nn k).2.2) fpa fki fmo fsz frd fct fet) frd fct fet (m_X0_go jn p nn ((g_X5_weighCases_37 fso fmi jn nn k).2.1) ((g_X5_weighCases_37 fso fmi jn nn k).2.2) fpa fki fmo fsz frd fct fet)) = X k p) : ∀ (q k : Nat) (y0 y1 y2 y3 y4 y5 : Nat → Int32), k + q ≤ pb → ∀ t u, t < 6 → wTr (p_X5_weighCases_3 pb fet fso fmi fpa fki fmo fsz frd fct jn nn v2 q k y0 y1 y2 y3 y4 y5) t u = if k ≤ t ∧ t < k + q ∧ u < pb then X t u else wAt y0 y1 y2 y3 y4 y5 t u
  | 0, k, y0, y1, y2, y3, y4, y5, h, t, u, ht => (if_neg (show ¬ (k ≤ t ∧ t < k + 0 ∧ u < pb) by omega)).symm
  | q + 1, k, y0, y1, y2, y3, y4, y5, h, t, u, ht => by
    have e := wc18 (k := k) (fun p hp => hX k p (by omega) hp) (pb - 0) 0 y0 y1 y2 y3 y4 y5 (by omega) t u ht
    rw [p_X5_weighCases_3, wc3 hX q (k + 1) _ _ _ _ _ _ (by omega) t u ht]
    by_cases d1 : k + 1 ≤ t ∧ t < k + 1 + q ∧ u < pb
    · rw [if_pos d1, if_pos (show k ≤ t ∧ t < k + (q + 1) ∧ u < pb by omega)]
    · rw [if_neg d1]
      refine Eq.trans e ?_
      by_cases d2 : t = k ∧ u < pb
      · rw [if_pos (show t = k ∧ 0 ≤ u ∧ u < 0 + (pb - 0) by omega), if_pos (show k ≤ t ∧ t < k + (q + 1) ∧ u < pb by omega), d2.1]
      · rw [if_neg (show ¬ (t = k ∧ 0 ≤ u ∧ u < 0 + (pb - 0)) by omega), if_neg (show ¬ (k ≤ t ∧ t < k + (q + 1) ∧ u < pb) by omega)]
theorem tp36 {k : Nat} {ro : Nat → Int32} (hpb : pb ≤ 6) : ∀ (q p : Nat) (fa ga : Nat → Int32), p + q ≤ pb → ∀ t u, u < 6 → (p_X6_tellsPlaces_36 ru Fst Fmo Fkd Fcd Fsr jn nn k ro q p fa ga).2.1 (6 * t + u) = (if t = k ∧ p ≤ u ∧ u < p + q then m_X6_heard_h031 ru Fst ro Fmo Fkd Fcd Fsr jn u nn else fa (6 * t + u)) ∧ (p_X6_tellsPlaces_36 ru Fst Fmo Fkd Fcd Fsr jn nn k ro q p fa ga).2.2 (6 * t + u) = (if t = k ∧ p ≤ u ∧ u < p + q then m_X6_heard_h034 ru Fst ro Fmo Fkd Fcd Fsr jn u nn else ga (6 * t + u))
  | 0, p, fa, ga, h, t, u, hu => ⟨(if_neg (show ¬ (t = k ∧ p ≤ u ∧ u < p + 0) by omega)).symm, (if_neg (show ¬ (t = k ∧ p ≤ u ∧ u < p + 0) by omega)).symm⟩
  | q + 1, p, fa, ga, h, t, u, hu => by
    rw [p_X6_tellsPlaces_36]
    by_cases c : m_X6_heard_h034 ru Fst ro Fmo Fkd Fcd Fsr jn p nn = 0
    · rw [if_pos c]
      obtain ⟨i1, i2⟩ := tp36 hpb q (p + 1) (upd fa (6 * k + p) (m_X6_heard_h031 ru Fst ro Fmo Fkd Fcd Fsr jn p nn)) (upd ga (6 * k + p) 0) (by omega) t u hu
      exact ⟨i1.trans (upd36 (X := fun u => m_X6_heard_h031 ru Fst ro Fmo Fkd Fcd Fsr jn u nn) rfl hu (by omega)), i2.trans (upd36 (X := fun u => m_X6_heard_h034 ru Fst ro Fmo Fkd Fcd Fsr jn u nn) c.symm hu (by omega))⟩
    · rw [if_neg c]
      obtain ⟨i1, i2⟩ := tp36 hpb q (p + 1) (upd fa (6 * k + p) (m_X6_heard_h031 ru Fst ro Fmo Fkd Fcd Fsr jn p nn)) (upd ga (6 * k + p) 1) (by omega) t u hu
      exact ⟨i1.trans (upd36 (X := fun u => m_X6_heard_h031 ru Fst ro Fmo Fkd Fcd Fsr jn u nn) rfl hu (by omega)), i2.trans (upd36 (X := fun u => m_X6_heard_h034 ru Fst ro Fmo Fkd Fcd Fsr jn u nn) (heard_1 c).symm hu (by omega))⟩
theorem tp24 (hw : mWx fct fet) (hT : TxR fct fet Fcd Fsr ru) (hP : CtP pb fki fmo fsz frd Fkd Fmo Fst) (rP : RgP pb fmo fsz) (hj : jn < 4) (hpb : pb ≤ 6) : ∀ (q k : Nat) (ro fa ga : Nat → Int32), k + q ≤ pb → CtJ (g_X5_weighCases_37 fso fmi jn nn k).2.1 (g_X5_weighCases_37 fso fmi jn nn k).2.2 fpa ro → RgJ (g_X5_weighCases_37 fso fmi jn nn k).2.1 fpa → ∀ t u, u < 6 → (p_X6_tellsPlaces_24 pb ru Fst Fmo Fkd Fcd Fsr jn nn q k ro fa ga).2.2.1 (6 * t + u) = (if k ≤ t ∧ t < k + q ∧ u < pb then m_X0_go jn u nn (g_X5_weighCases_37 fso fmi jn nn t).2.1 (g_X5_weighCases_37 fso fmi jn nn t).2.2 fpa fki fmo fsz frd fct fet else fa (6 * t + u)) ∧ (p_X6_tellsPlaces_24 pb ru Fst Fmo Fkd Fcd Fsr jn nn q k ro fa ga).2.2.2 (6 * t + u) = (if k ≤ t ∧ t < k + q ∧ u < pb then m_X0_verdict jn u (m_X0_go_n2 jn u nn (g_X5_weighCases_37 fso fmi jn nn t).2.1 (g_X5_weighCases_37 fso fmi jn nn t).2.2 fpa fki fmo fsz frd fct fet) (m_X0_go_n3 jn u nn (g_X5_weighCases_37 fso fmi jn nn t).2.1 (g_X5_weighCases_37 fso fmi jn nn t).2.2 fpa fki fmo fsz frd fct fet) fmo (m_X0_go_n7 jn u nn (g_X5_weighCases_37 fso fmi jn nn t).2.1 (g_X5_weighCases_37 fso fmi jn nn t).2.2 fpa fki fmo fsz frd fct fet) frd fct fet (m_X0_go jn u nn (g_X5_weighCases_37 fso fmi jn nn t).2.1 (g_X5_weighCases_37 fso fmi jn nn t).2.2 fpa fki fmo fsz frd fct fet) else ga (6 * t + u))
  | 0, k, ro, fa, ga, h, hJ, rJ, t, u, hu => ⟨(if_neg (show ¬ (k ≤ t ∧ t < k + 0 ∧ u < pb) by omega)).symm, (if_neg (show ¬ (k ≤ t ∧ t < k + 0 ∧ u < pb) by omega)).symm⟩
  | q + 1, k, ro, fa, ga, h, hJ, rJ, t, u, hu => by
    obtain ⟨x1, x2⟩ := tread_run hj nn (0 + k * nn) 0 _ _ _ _ hJ rJ
    rw [← g37_s] at x1 x2
    obtain ⟨i1, i2⟩ := tp24 hw hT hP rP hj hpb q (k + 1) (g_X6_tellsPlaces_104 jn nn ro).2 (g_X6_tellsPlaces_36 pb ru Fst Fmo Fkd Fcd Fsr jn nn k ro fa ga).2.1 (g_X6_tellsPlaces_36 pb ru Fst Fmo Fkd Fcd Fsr jn nn k ro fa ga).2.2 (by omega) x1 x2 t u hu
    obtain ⟨j1, j2⟩ := tp36 (ru := ru) (Fst := Fst) (Fmo := Fmo) (Fkd := Fkd) (Fcd := Fcd) (Fsr := Fsr) (jn := jn) (nn := nn) (k := k) (ro := ro) hpb (pb - 0) 0 fa ga (by omega) t u hu
    rw [p_X6_tellsPlaces_24]
    refine ⟨i1.trans ?_, i2.trans ?_⟩
    · by_cases d1 : k + 1 ≤ t ∧ t < k + 1 + q ∧ u < pb
      · rw [if_pos d1, if_pos (show k ≤ t ∧ t < k + (q + 1) ∧ u < pb by omega)]
      · rw [if_neg d1]
        refine Eq.trans j1 ?_
        by_cases d2 : t = k ∧ u < pb
        · rw [if_pos (show t = k ∧ 0 ≤ u ∧ u < 0 + (pb - 0) by omega), if_pos (show k ≤ t ∧ t < k + (q + 1) ∧ u < pb by omega), d2.1]
          exact (go_same hw hT hJ hP rJ rP hj d2.2).1.symm
        · rw [if_neg (show ¬ (t = k ∧ 0 ≤ u ∧ u < 0 + (pb - 0)) by omega), if_neg (show ¬ (k ≤ t ∧ t < k + (q + 1) ∧ u < pb) by omega)]
    · by_cases d1 : k + 1 ≤ t ∧ t < k + 1 + q ∧ u < pb
      · rw [if_pos d1, if_pos (show k ≤ t ∧ t < k + (q + 1) ∧ u < pb by omega)]
      · rw [if_neg d1]
        refine Eq.trans j2 ?_
        by_cases d2 : t = k ∧ u < pb
        · rw [if_pos (show t = k ∧ 0 ≤ u ∧ u < 0 + (pb - 0) by omega), if_pos (show k ≤ t ∧ t < k + (q + 1) ∧ u < pb by omega), d2.1]
          exact (heard_eq hw hT hJ hP rJ rP hj d2.2).symm
        · rw [if_neg (show ¬ (t = k ∧ 0 ≤ u ∧ u < 0 + (pb - 0)) by omega), if_neg (show ¬ (k ≤ t ∧ t < k + (q + 1) ∧ u < pb) by omega)]
/-- the weights by turn and pebble, and what the reference tells of them -/
theorem weigh_eq {w0 w1 w2 w3 w4 w5 : Nat → Int32} (hw : mWx fct fet) (hT : TxR fct fet Fcd Fsr ru) (hJ : CtJ fso fmi fpa Fro) (hP : CtP pb fki fmo fsz frd Fkd Fmo Fst) (rJ : RgJ fso fpa) (rP : RgP pb fmo fsz) (hj : jn < 4) (hpb : pb ≤ 6) (k p : Nat) (hk : k < pb) (hp : p < pb) : wAt (m_X5_weighCases_w0 pb fet fso fmi fpa fki fmo fsz frd fct w0 w1 w2 w3 w4 w5 jn nn v2) (m_X5_weighCases_w1 pb fet fso fmi fpa fki fmo fsz frd fct w0 w1 w2 w3 w4 w5 jn nn v2) (m_X5_weighCases_w2 pb fet fso fmi fpa fki fmo fsz frd fct w0 w1 w2 w3 w4 w5 jn nn v2) (m_X5_weighCases_w3 pb fet fso fmi fpa fki fmo fsz frd fct w0 w1 w2 w3 w4 w5 jn nn v2) (m_X5_weighCases_w4 pb fet fso fmi fpa fki fmo fsz frd fct w0 w1 w2 w3 w4 w5 jn nn v2) (m_X5_weighCases_w5 pb fet fso fmi fpa fki fmo fsz frd fct w0 w1 w2 w3 w4 w5 jn nn v2) k p = (if v2 = 0 then m_X6_tellsPlaces_fa pb ru Fst Fro Fmo Fkd Fcd Fsr ffa fga jn nn (6 * k + p) else m_X6_tellsPlaces_ga pb ru Fst Fro Fmo Fkd Fcd Fsr ffa fga jn nn (6 * k + p)) := by
  have h0 : g_X5_weighCases_37 fso fmi jn nn 0 = (0, fso, fmi) := by
    unfold g_X5_weighCases_37
    rw [Nat.zero_mul]
    rfl
  have hJ0 : CtJ (g_X5_weighCases_37 fso fmi jn nn 0).2.1 (g_X5_weighCases_37 fso fmi jn nn 0).2.2 fpa Fro := by rw [h0]; exact hJ
  have rJ0 : RgJ (g_X5_weighCases_37 fso fmi jn nn 0).2.1 fpa := by rw [h0]; exact rJ
  have a := wc3 (v2 := v2) (nn := nn) (jn := jn) (fso := fso) (fmi := fmi) (fpa := fpa) (fki := fki) (fmo := fmo) (fsz := fsz) (frd := frd) (fct := fct) (fet := fet) (pb := pb) (fun k p _ _ => rfl) (pb - 0) 0 w0 w1 w2 w3 w4 w5 (by omega) k p (by omega)
  obtain ⟨b1, b2⟩ := tp24 (fso := fso) (fmi := fmi) (fpa := fpa) (nn := nn) hw hT hP rP hj hpb (pb - 0) 0 Fro ffa fga (by omega) hJ0 rJ0 k p (by omega)
  rw [if_pos (show 0 ≤ k ∧ k < 0 + (pb - 0) ∧ p < pb by omega)] at a b1 b2
  refine Eq.trans a ?_
  by_cases c : v2 = 0
  · exact (if_pos c).trans (b1.symm.trans (if_pos c).symm)
  · exact (if_neg c).trans (b2.symm.trans (if_neg c).symm)
theorem verd_01 {a b d e g h : Nat → Int32} {x : Int32} : m_X0_verdict jn pn a b d e g h fet x = 0 ∨ m_X0_verdict jn pn a b d e g h fet x = 1 := by
  unfold m_X0_verdict
  split
  · exact Or.inl rfl
  · exact Or.inr rfl
theorem ga_01 (hw : mWx fct fet) (hT : TxR fct fet Fcd Fsr ru) (hJ : CtJ fso fmi fpa Fro) (hP : CtP pb fki fmo fsz frd Fkd Fmo Fst) (rJ : RgJ fso fpa) (rP : RgP pb fmo fsz) (hj : jn < 4) (hpb : pb ≤ 6) (k p : Nat) (hk : k < pb) (hp : p < pb) : m_X6_tellsPlaces_ga pb ru Fst Fro Fmo Fkd Fcd Fsr ffa fga jn nn (6 * k + p) = 0 ∨ m_X6_tellsPlaces_ga pb ru Fst Fro Fmo Fkd Fcd Fsr ffa fga jn nn (6 * k + p) = 1 := by
  have h0 : g_X5_weighCases_37 fso fmi jn nn 0 = (0, fso, fmi) := by
    unfold g_X5_weighCases_37
    rw [Nat.zero_mul]
    rfl
  have hJ0 : CtJ (g_X5_weighCases_37 fso fmi jn nn 0).2.1 (g_X5_weighCases_37 fso fmi jn nn 0).2.2 fpa Fro := by rw [h0]; exact hJ
  have rJ0 : RgJ (g_X5_weighCases_37 fso fmi jn nn 0).2.1 fpa := by rw [h0]; exact rJ
  obtain ⟨b1, b2⟩ := tp24 (fso := fso) (fmi := fmi) (fpa := fpa) (nn := nn) hw hT hP rP hj hpb (pb - 0) 0 Fro ffa fga (by omega) hJ0 rJ0 k p (by omega)
  rw [if_pos (show 0 ≤ k ∧ k < 0 + (pb - 0) ∧ p < pb by omega)] at b2
  have e : m_X6_tellsPlaces_ga pb ru Fst Fro Fmo Fkd Fcd Fsr ffa fga jn nn (6 * k + p) = _ := b2
  rw [e]
  exact verd_01
theorem g37_J (hj : jn < 4) (hJ : CtJ fso fmi fpa Fro) (rJ : RgJ fso fpa) : ∀ k : Nat, ∃ ro : Nat → Int32, CtJ (g_X5_weighCases_37 fso fmi jn nn k).2.1 (g_X5_weighCases_37 fso fmi jn nn k).2.2 fpa ro ∧ RgJ (g_X5_weighCases_37 fso fmi jn nn k).2.1 fpa
  | 0 => by
    have h0 : g_X5_weighCases_37 fso fmi jn nn 0 = (0, fso, fmi) := by
      unfold g_X5_weighCases_37
      rw [Nat.zero_mul]
      rfl
    rw [h0]
    exact ⟨Fro, hJ, rJ⟩
  | k + 1 => by
    obtain ⟨ro, a, b⟩ := g37_J hj hJ rJ k
    have x := tread_run hj nn (0 + k * nn) 0 _ _ _ _ a b
    rw [← g37_s] at x
    exact ⟨_, x⟩
theorem wE (hw : mWx fct fet) (hT : TxR fct fet Fcd Fsr ru) (hJ : CtJ fso fmi fpa Fro) (hP : CtP pb fki fmo fsz frd Fkd Fmo Fst) (rJ : RgJ fso fpa) (rP : RgP pb fmo fsz) (hj : jn < 4) (hpb : pb ≤ 6) (k p : Nat) (hk : k < pb) (hp : p < pb) : ∃ ro : Nat → Int32, CtJ (g_X5_weighCases_37 fso fmi jn nn k).2.1 (g_X5_weighCases_37 fso fmi jn nn k).2.2 fpa ro ∧ RgJ (g_X5_weighCases_37 fso fmi jn nn k).2.1 fpa ∧ m_X6_tellsPlaces_fa pb ru Fst Fro Fmo Fkd Fcd Fsr ffa fga jn nn (6 * k + p) = m_X0_go jn p nn (g_X5_weighCases_37 fso fmi jn nn k).2.1 (g_X5_weighCases_37 fso fmi jn nn k).2.2 fpa fki fmo fsz frd fct fet := by
  have h0 : g_X5_weighCases_37 fso fmi jn nn 0 = (0, fso, fmi) := by
    unfold g_X5_weighCases_37
    rw [Nat.zero_mul]
    rfl
  have hJ0 : CtJ (g_X5_weighCases_37 fso fmi jn nn 0).2.1 (g_X5_weighCases_37 fso fmi jn nn 0).2.2 fpa Fro := by rw [h0]; exact hJ
  have rJ0 : RgJ (g_X5_weighCases_37 fso fmi jn nn 0).2.1 fpa := by rw [h0]; exact rJ
  obtain ⟨b1, b2⟩ := tp24 (fso := fso) (fmi := fmi) (fpa := fpa) (nn := nn) hw hT hP rP hj hpb (pb - 0) 0 Fro ffa fga (by omega) hJ0 rJ0 k p (by omega)
  rw [if_pos (show 0 ≤ k ∧ k < 0 + (pb - 0) ∧ p < pb by omega)] at b1
  obtain ⟨ro, x1, x2⟩ := g37_J (nn := nn) hj hJ rJ k
  exact ⟨ro, x1, x2, b1⟩
end R6
