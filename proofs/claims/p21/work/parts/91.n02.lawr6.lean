/-! counsel by turns: the table of sets is the same on both sides, and the first one chosen -/
def Bd (x : Int32) (m : Nat) : Prop := 0 ≤ x.toInt ∧ x.toInt ≤ (m : Int)
theorem t_neg1 : (-1 : Int32).toInt = -1 := by decide
theorem neg_t {x : Int32} (h : Bd x 1000000) : ((-1) * x).toInt = - x.toInt := by
  obtain ⟨h1, h2⟩ := h
  rw [Int32.toInt_mul, t_neg1]
  unfold Int.bmod
  dsimp only
  split <;> omega
theorem neg_le {x y : Int32} (hx : Bd x 1000000) (hy : Bd y 1000000) : ((-1) * x ≤ (-1) * y) ↔ y ≤ x := by
  rw [Int32.le_iff_toInt_le, Int32.le_iff_toInt_le, neg_t hx, neg_t hy]
  omega
theorem neg_2 {x : Int32} : (-1) * ((-1) * x) = x := by
  rw [← Int32.mul_assoc, show (-1 : Int32) * (-1) = 1 by decide, Int32.one_mul]
theorem Bd_up {x : Int32} {m n : Nat} (h : Bd x m) (hn : m ≤ n) : Bd x n := ⟨h.1, by have := h.2; omega⟩
theorem Bd_0 {n : Nat} : Bd 0 n := ⟨by decide, by rw [t_0]; omega⟩
theorem Bd_1 {x : Int32} (h : x = 0 ∨ x = 1) : Bd x 1 := by
  rcases h with e | e <;> subst e
  · exact Bd_0
  · exact ⟨by decide, by decide⟩
theorem Bd_add {x y : Int32} {m n : Nat} (hx : Bd x m) (hy : Bd y n) (h : m + n ≤ 1000000) : Bd (x + y) (m + n) := by
  obtain ⟨a1, a2⟩ := hx
  obtain ⟨b1, b2⟩ := hy
  have e := t_add (a := x) (b := y) (by omega) (by omega)
  exact ⟨by rw [e]; omega, by rw [e]; omega⟩
theorem on_or {s p : Nat} (h : s < 64) (hp : p < 6) (c : ((nI s >>> (nI p &&& 31)) &&& 1) = 0) : nOn (nOr s p) = nOn s + 1 := (by decide +kernel : ∀ s, s < 64 → ∀ p, p < 6 → ((nI s >>> (nI p &&& 31)) &&& 1) = 0 → nOn (nOr s p) = nOn s + 1) s h p hp c
theorem or_gt {s p : Nat} (h : s < 64) (hp : p < 6) (c : ((nI s >>> (nI p &&& 31)) &&& 1) = 0) : s < nOr s p := (by decide +kernel : ∀ s, s < 64 → ∀ p, p < 6 → ((nI s >>> (nI p &&& 31)) &&& 1) = 0 → s < nOr s p) s h p hp c
theorem or_in {n s p : Nat} (hn : n ≤ 6) (hs : s ≤ nAll n) (hp : p < n) : nOr s p ≤ nAll n := (by decide +kernel : ∀ n, n < 7 → ∀ s, s < 64 → ∀ p, p < 6 → s ≤ nAll n → p < n → nOr s p ≤ nAll n) n (by omega) s (by have := nAll_le hn; omega) p (by omega) hs hp
theorem on_lt {n s : Nat} (hn : n ≤ 6) (hs : s < nAll n) : nOn s < n := (by decide +kernel : ∀ n, n < 7 → ∀ s, s < 64 → s < nAll n → nOn s < n) n (by omega) s (by have := nAll_le hn; omega) hs
theorem nAll_1 {n : Nat} (hn : n ≤ 6) (h : 1 ≤ n) : 1 ≤ nAll n := (by decide +kernel : ∀ n, n < 7 → 1 ≤ n → 1 ≤ nAll n) n (by omega) h
theorem bit_0 {p : Nat} (hp : p < 6) : ((nI 0 >>> (nI p &&& 31)) &&& 1) = 0 := (by decide +kernel : ∀ p, p < 6 → ((nI 0 >>> (nI p &&& 31)) &&& 1) = 0) p hp
theorem or_1 {p : Nat} (hp : p < 6) : 1 ≤ nOr 0 p := (by decide +kernel : ∀ p, p < 6 → 1 ≤ nOr 0 p) p hp
section R7
variable {ru pb jg s9 : Nat} {Fcd : Nat → Int32} {Fsr : Nat → Nat} {Fro Fkd Fmo Fst ffa fga w0 w1 w2 w3 w4 w5 tr vo : Nat → Int32} {v0 v1 : Int32}
theorem in_max (hAB : ∀ p, p < pb → ((nI (nAll pb - s9 - 1) >>> (nI p &&& 31)) &&& 1) = 0 → (wAt w0 w1 w2 w3 w4 w5 (nOn (nAll pb - s9 - 1)) p + tr (nOr (nAll pb - s9 - 1) p)) = (m_X6_tellsPlaces_ga pb ru Fst Fro Fmo Fkd Fcd Fsr ffa fga (nC v0) (nC v1) (6 * nOn (nAll pb - s9 - 1) + p) + vo (nOr (nAll pb - s9 - 1) p))) (hpb : pb ≤ 6) : ∀ (q p : Nat) (fi be bs : Int32), p + q = pb → ((fi = 1 ∧ bs = -1) ∨ (fi = 0 ∧ ¬ bs = -1)) → (p_X4_solve_57q1 w0 w1 w2 w3 w4 w5 pb s9 tr q p fi be).2.2 = (p_X6_counsel_98q1 pb ru Fst Fro Fmo Fkd Fcd Fsr ffa fga v0 v1 s9 vo q p bs be).2.2
  | 0, p, fi, be, bs, h, hs => rfl
  | q + 1, p, fi, be, bs, h, hs => by
    rw [p_X4_solve_57q1, p_X6_counsel_98q1]
    by_cases c : ((nI (nAll pb - s9 - 1) >>> (nI p &&& 31)) &&& 1) = 0
    · rw [if_pos c, if_pos c, hAB p (by omega) c, Int32.one_mul]
      rcases hs with ⟨h1, h2⟩ | ⟨h1, h2⟩
      · rw [if_neg (show ¬ fi = 0 by rw [h1]; decide), if_pos h2]
        exact in_max hAB hpb q (p + 1) 0 _ (nI p) (by omega) (Or.inr ⟨rfl, nI_nn (by omega)⟩)
      · rw [if_pos h1, if_neg h2]
        by_cases d : (m_X6_tellsPlaces_ga pb ru Fst Fro Fmo Fkd Fcd Fsr ffa fga (nC v0) (nC v1) (6 * nOn (nAll pb - s9 - 1) + p) + vo (nOr (nAll pb - s9 - 1) p)) ≤ be
        · rw [if_pos d, if_pos d]; exact in_max hAB hpb q (p + 1) 0 be bs (by omega) (Or.inr ⟨rfl, h2⟩)
        · rw [if_neg d, if_neg d]; exact in_max hAB hpb q (p + 1) 0 _ (nI p) (by omega) (Or.inr ⟨rfl, nI_nn (by omega)⟩)
    · rw [if_neg c, if_neg c]; exact in_max hAB hpb q (p + 1) fi be bs (by omega) hs
theorem in_min {m : Nat} (hAB : ∀ p, p < pb → ((nI (nAll pb - s9 - 1) >>> (nI p &&& 31)) &&& 1) = 0 → (wAt w0 w1 w2 w3 w4 w5 (nOn (nAll pb - s9 - 1)) p + tr (nOr (nAll pb - s9 - 1) p)) = (m_X6_tellsPlaces_ga pb ru Fst Fro Fmo Fkd Fcd Fsr ffa fga (nC v0) (nC v1) (6 * nOn (nAll pb - s9 - 1) + p) + vo (nOr (nAll pb - s9 - 1) p))) (hB : ∀ p, p < pb → ((nI (nAll pb - s9 - 1) >>> (nI p &&& 31)) &&& 1) = 0 → Bd (wAt w0 w1 w2 w3 w4 w5 (nOn (nAll pb - s9 - 1)) p + tr (nOr (nAll pb - s9 - 1) p)) m) (hm : m ≤ 1000000) (hpb : pb ≤ 6) : ∀ (q p : Nat) (fi be bs ms : Int32), p + q = pb → ((fi = 1 ∧ bs = -1 ∧ be = 0 ∧ ms = 0) ∨ (fi = 0 ∧ ¬ bs = -1 ∧ ms = (-1) * be ∧ Bd be 1000000)) → (p_X4_solve_57 w0 w1 w2 w3 w4 w5 pb s9 tr q p fi be).2.2 = (-1) * (p_X6_counsel_98 pb ru Fst Fro Fmo Fkd Fcd Fsr ffa fga v0 v1 s9 vo q p bs ms).2.2
  | 0, p, fi, be, bs, ms, h, hs => by
    show be = (-1) * ms
    rcases hs with ⟨h1, h2, h3, h4⟩ | ⟨h1, h2, h3, h4⟩
    · rw [h3, h4]; decide
    · rw [h3, neg_2]
  | q + 1, p, fi, be, bs, ms, h, hs => by
    rw [p_X4_solve_57, p_X6_counsel_98]
    by_cases c : ((nI (nAll pb - s9 - 1) >>> (nI p &&& 31)) &&& 1) = 0
    · have hb := hB p (by omega) c
      rw [hAB p (by omega) c] at hb
      have hb := Bd_up hb hm
      rw [if_pos c, if_pos c, hAB p (by omega) c]
      rcases hs with ⟨h1, h2, h3, h4⟩ | ⟨h1, h2, h3, h4⟩
      · rw [if_neg (show ¬ fi = 0 by rw [h1]; decide), if_pos h2]
        exact in_min hAB hB hm hpb q (p + 1) 0 _ (nI p) _ (by omega) (Or.inr ⟨rfl, nI_nn (by omega), rfl, hb⟩)
      · rw [if_pos h1, if_neg h2]
        by_cases d : be ≤ (m_X6_tellsPlaces_ga pb ru Fst Fro Fmo Fkd Fcd Fsr ffa fga (nC v0) (nC v1) (6 * nOn (nAll pb - s9 - 1) + p) + vo (nOr (nAll pb - s9 - 1) p))
        · rw [if_pos d, if_pos (show (-1) * (m_X6_tellsPlaces_ga pb ru Fst Fro Fmo Fkd Fcd Fsr ffa fga (nC v0) (nC v1) (6 * nOn (nAll pb - s9 - 1) + p) + vo (nOr (nAll pb - s9 - 1) p)) ≤ ms by rw [h3]; exact (neg_le hb h4).mpr d)]; exact in_min hAB hB hm hpb q (p + 1) 0 be bs ms (by omega) (Or.inr ⟨rfl, h2, h3, h4⟩)
        · rw [if_neg d, if_neg (show ¬ (-1) * (m_X6_tellsPlaces_ga pb ru Fst Fro Fmo Fkd Fcd Fsr ffa fga (nC v0) (nC v1) (6 * nOn (nAll pb - s9 - 1) + p) + vo (nOr (nAll pb - s9 - 1) p)) ≤ ms by rw [h3]; exact fun z => d ((neg_le hb h4).mp z))]; exact in_min hAB hB hm hpb q (p + 1) 0 _ (nI p) _ (by omega) (Or.inr ⟨rfl, nI_nn (by omega), rfl, hb⟩)
    · rw [if_neg c, if_neg c]; exact in_min hAB hB hm hpb q (p + 1) fi be bs ms (by omega) hs
theorem in_bdq1 {m : Nat} (hB : ∀ p, p < pb → ((nI (nAll pb - s9 - 1) >>> (nI p &&& 31)) &&& 1) = 0 → Bd (wAt w0 w1 w2 w3 w4 w5 (nOn (nAll pb - s9 - 1)) p + tr (nOr (nAll pb - s9 - 1) p)) m) : ∀ (q p : Nat) (fi be : Int32), p + q = pb → Bd be m → Bd (p_X4_solve_57q1 w0 w1 w2 w3 w4 w5 pb s9 tr q p fi be).2.2 m
  | 0, p, fi, be, h, hb => hb
  | q + 1, p, fi, be, h, hb => by
    rw [p_X4_solve_57q1]
    by_cases c : ((nI (nAll pb - s9 - 1) >>> (nI p &&& 31)) &&& 1) = 0
    · rw [if_pos c]
      by_cases f : fi = 0
      · rw [if_pos f]
        by_cases d : (wAt w0 w1 w2 w3 w4 w5 (nOn (nAll pb - s9 - 1)) p + tr (nOr (nAll pb - s9 - 1) p)) ≤ be
        · rw [if_pos d]; exact in_bdq1 hB q (p + 1) 0 be (by omega) hb
        · rw [if_neg d]; exact in_bdq1 hB q (p + 1) 0 _ (by omega) (hB p (by omega) c)
      · rw [if_neg f]; exact in_bdq1 hB q (p + 1) 0 _ (by omega) (hB p (by omega) c)
    · rw [if_neg c]; exact in_bdq1 hB q (p + 1) fi be (by omega) hb
theorem in_bd {m : Nat} (hB : ∀ p, p < pb → ((nI (nAll pb - s9 - 1) >>> (nI p &&& 31)) &&& 1) = 0 → Bd (wAt w0 w1 w2 w3 w4 w5 (nOn (nAll pb - s9 - 1)) p + tr (nOr (nAll pb - s9 - 1) p)) m) : ∀ (q p : Nat) (fi be : Int32), p + q = pb → Bd be m → Bd (p_X4_solve_57 w0 w1 w2 w3 w4 w5 pb s9 tr q p fi be).2.2 m
  | 0, p, fi, be, h, hb => hb
  | q + 1, p, fi, be, h, hb => by
    rw [p_X4_solve_57]
    by_cases c : ((nI (nAll pb - s9 - 1) >>> (nI p &&& 31)) &&& 1) = 0
    · rw [if_pos c]
      by_cases f : fi = 0
      · rw [if_pos f]
        by_cases d : be ≤ (wAt w0 w1 w2 w3 w4 w5 (nOn (nAll pb - s9 - 1)) p + tr (nOr (nAll pb - s9 - 1) p))
        · rw [if_pos d]; exact in_bd hB q (p + 1) 0 be (by omega) hb
        · rw [if_neg d]; exact in_bd hB q (p + 1) 0 _ (by omega) (hB p (by omega) c)
      · rw [if_neg f]; exact in_bd hB q (p + 1) 0 _ (by omega) (hB p (by omega) c)
    · rw [if_neg c]; exact in_bd hB q (p + 1) fi be (by omega) hb
theorem dp_run (hpb : pb ≤ 6) (hW : ∀ k p, k < pb → p < pb → wAt w0 w1 w2 w3 w4 w5 k p = m_X6_tellsPlaces_ga pb ru Fst Fro Fmo Fkd Fcd Fsr ffa fga (nC v0) (nC v1) (6 * k + p)) (h01 : ∀ k p, k < pb → p < pb → m_X6_tellsPlaces_ga pb ru Fst Fro Fmo Fkd Fcd Fsr ffa fga (nC v0) (nC v1) (6 * k + p) = 0 ∨ m_X6_tellsPlaces_ga pb ru Fst Fro Fmo Fkd Fcd Fsr ffa fga (nC v0) (nC v1) (6 * k + p) = 1) : ∀ (q s : Nat) (fi : Int32) (tr vo : Nat → Int32), s + q = nAll pb → (∀ S, q ≤ S → S ≤ nAll pb → tr S = vo S ∧ Bd (tr S) (6 - nOn S)) → (∀ S, S ≤ nAll pb → (p_X4_solve_18 w0 w1 w2 w3 w4 w5 pb 1 q s tr).2 S = (p_X6_counsel_63 pb ru Fst Fro Fmo Fkd Fcd Fsr ffa fga v0 v1 q s fi vo).2.2 S) ∧ (q = 0 → (p_X6_counsel_63 pb ru Fst Fro Fmo Fkd Fcd Fsr ffa fga v0 v1 q s fi vo).2.1 = fi) ∧ (¬ q = 0 → ∃ vz : Nat → Int32, (∀ S, 1 ≤ S → S ≤ nAll pb → vz S = (p_X6_counsel_63 pb ru Fst Fro Fmo Fkd Fcd Fsr ffa fga v0 v1 q s fi vo).2.2 S) ∧ (p_X6_counsel_63 pb ru Fst Fro Fmo Fkd Fcd Fsr ffa fga v0 v1 q s fi vo).2.1 = (g_X6_counsel_98q1 pb ru Fst Fro Fmo Fkd Fcd Fsr ffa fga v0 v1 (nAll pb - 1) vz).2.1 ∧ (p_X6_counsel_63 pb ru Fst Fro Fmo Fkd Fcd Fsr ffa fga v0 v1 q s fi vo).2.2 0 = (g_X6_counsel_98q1 pb ru Fst Fro Fmo Fkd Fcd Fsr ffa fga v0 v1 (nAll pb - 1) vz).2.2)
  | 0, s, fi, tr, vo, hs, h => ⟨fun S h1 => (h S (Nat.zero_le _) h1).1, fun _ => rfl, fun z => absurd rfl z⟩
  | q + 1, s, fi, tr, vo, hs, h => by
    have h63 := nAll_le hpb
    have eS : (nAll pb - s - 1) = q := by omega
    have hq : (nAll pb - s - 1) < nAll pb := by omega
    have hon := on_lt hpb hq
    have hBd : ∀ p, p < pb → ((nI (nAll pb - s - 1) >>> (nI p &&& 31)) &&& 1) = 0 → Bd (wAt w0 w1 w2 w3 w4 w5 (nOn (nAll pb - s - 1)) p + tr (nOr (nAll pb - s - 1) p)) (6 - nOn (nAll pb - s - 1)) := fun p hp c => by
      have g := or_gt (by omega) (by omega) c
      have i := or_in hpb (Nat.le_of_lt hq) hp
      have n := on_or (by omega) (by omega) c
      have x := Bd_1 (h01 (nOn (nAll pb - s - 1)) p hon hp)
      rw [← hW (nOn (nAll pb - s - 1)) p hon hp] at x
      have y := (h (nOr (nAll pb - s - 1) p) (by omega) i).2
      rw [n] at y
      exact Bd_up (Bd_add x y (by omega)) (by omega)
    have hAB : ∀ p, p < pb → ((nI (nAll pb - s - 1) >>> (nI p &&& 31)) &&& 1) = 0 → (wAt w0 w1 w2 w3 w4 w5 (nOn (nAll pb - s - 1)) p + tr (nOr (nAll pb - s - 1) p)) = (m_X6_tellsPlaces_ga pb ru Fst Fro Fmo Fkd Fcd Fsr ffa fga (nC v0) (nC v1) (6 * nOn (nAll pb - s - 1) + p) + vo (nOr (nAll pb - s - 1) p)) := fun p hp c => by
      have g := or_gt (by omega) (by omega) c
      have i := or_in hpb (Nat.le_of_lt hq) hp
      rw [hW (nOn (nAll pb - s - 1)) p hon hp, (h (nOr (nAll pb - s - 1) p) (by omega) i).1]
    rw [p_X4_solve_18, p_X6_counsel_63, if_neg (show ¬ (1 : Int32) = 0 by decide)]
    by_cases e : nI (nOn (nAll pb - s - 1) % 2) = 0
    · simp only [if_pos e]
      have m : (g_X4_solve_57q1 w0 w1 w2 w3 w4 w5 pb s tr).2.2 = 1 * (g_X6_counsel_98q1 pb ru Fst Fro Fmo Fkd Fcd Fsr ffa fga v0 v1 s vo).2.2 := (in_max hAB hpb (pb - 0) 0 1 0 (-1) (by omega) (Or.inl ⟨rfl, rfl⟩)).trans (Int32.one_mul _).symm
      have b : Bd (g_X4_solve_57q1 w0 w1 w2 w3 w4 w5 pb s tr).2.2 (6 - nOn (nAll pb - s - 1)) := in_bdq1 hBd (pb - 0) 0 1 0 (by omega) Bd_0
      have hn : ∀ T, q ≤ T → T ≤ nAll pb → upd tr (nAll pb - s - 1) (g_X4_solve_57q1 w0 w1 w2 w3 w4 w5 pb s tr).2.2 T = upd vo (nAll pb - s - 1) (1 * (g_X6_counsel_98q1 pb ru Fst Fro Fmo Fkd Fcd Fsr ffa fga v0 v1 s vo).2.2) T ∧ Bd (upd tr (nAll pb - s - 1) (g_X4_solve_57q1 w0 w1 w2 w3 w4 w5 pb s tr).2.2 T) (6 - nOn T) := fun T h1 h2 => by
        by_cases f : T = (nAll pb - s - 1)
        · rw [upd_a9 f, upd_a9 f]; exact ⟨m, by rw [f]; exact b⟩
        · rw [upd_n9 f, upd_n9 f]; exact h T (by omega) h2
      obtain ⟨r1, r2, r3⟩ := dp_run hpb hW h01 q (s + 1) (g_X6_counsel_98q1 pb ru Fst Fro Fmo Fkd Fcd Fsr ffa fga v0 v1 s vo).2.1 _ _ (by omega) hn
      refine ⟨r1, fun z => absurd z (by omega), fun _ => ?_⟩
      by_cases z : q = 0
      · have e9 : nAll pb - 1 = s := by omega
        have e8 : (nAll pb - s - 1) = 0 := by omega
        rw [r2 z, e9]
        subst z
        refine ⟨vo, fun T h1 h2 => ?_, rfl, ?_⟩
        · show vo T = upd vo (nAll pb - s - 1) (1 * (g_X6_counsel_98q1 pb ru Fst Fro Fmo Fkd Fcd Fsr ffa fga v0 v1 s vo).2.2) T
          rw [upd_n9 (show ¬ T = (nAll pb - s - 1) by omega)]
        · show upd vo (nAll pb - s - 1) (1 * (g_X6_counsel_98q1 pb ru Fst Fro Fmo Fkd Fcd Fsr ffa fga v0 v1 s vo).2.2) 0 = (g_X6_counsel_98q1 pb ru Fst Fro Fmo Fkd Fcd Fsr ffa fga v0 v1 s vo).2.2
          rw [upd_a9 e8.symm, Int32.one_mul]
      · exact r3 z
    · simp only [if_neg e]
      have m : (g_X4_solve_57 w0 w1 w2 w3 w4 w5 pb s tr).2.2 = (-1) * (g_X6_counsel_98 pb ru Fst Fro Fmo Fkd Fcd Fsr ffa fga v0 v1 s vo).2.2 := in_min hAB hBd (by omega) hpb (pb - 0) 0 1 0 (-1) 0 (by omega) (Or.inl ⟨rfl, rfl, rfl, rfl⟩)
      have b : Bd (g_X4_solve_57 w0 w1 w2 w3 w4 w5 pb s tr).2.2 (6 - nOn (nAll pb - s - 1)) := in_bd hBd (pb - 0) 0 1 0 (by omega) Bd_0
      have hn : ∀ T, q ≤ T → T ≤ nAll pb → upd tr (nAll pb - s - 1) (g_X4_solve_57 w0 w1 w2 w3 w4 w5 pb s tr).2.2 T = upd vo (nAll pb - s - 1) ((-1) * (g_X6_counsel_98 pb ru Fst Fro Fmo Fkd Fcd Fsr ffa fga v0 v1 s vo).2.2) T ∧ Bd (upd tr (nAll pb - s - 1) (g_X4_solve_57 w0 w1 w2 w3 w4 w5 pb s tr).2.2 T) (6 - nOn T) := fun T h1 h2 => by
        by_cases f : T = (nAll pb - s - 1)
        · rw [upd_a9 f, upd_a9 f]; exact ⟨m, by rw [f]; exact b⟩
        · rw [upd_n9 f, upd_n9 f]; exact h T (by omega) h2
      obtain ⟨r1, r2, r3⟩ := dp_run hpb hW h01 q (s + 1) (g_X6_counsel_98 pb ru Fst Fro Fmo Fkd Fcd Fsr ffa fga v0 v1 s vo).2.1 _ _ (by omega) hn
      refine ⟨r1, fun z => absurd z (by omega), fun _ => ?_⟩
      by_cases z : q = 0
      · exact absurd (show nI (nOn (nAll pb - s - 1) % 2) = 0 by rw [show (nAll pb - s - 1) = 0 by omega]; decide) e
      · exact r3 z
theorem arg_max (hS : (nAll pb - s9 - 1) = 0) (hpb : pb ≤ 6) : ∀ (q p : Nat) (bs ms : Int32), p + q = pb → ((p_X6_counsel_98q1 pb ru Fst Fro Fmo Fkd Fcd Fsr ffa fga v0 v1 s9 vo q p bs ms).2.1 = bs ∧ (p_X6_counsel_98q1 pb ru Fst Fro Fmo Fkd Fcd Fsr ffa fga v0 v1 s9 vo q p bs ms).2.2 = ms ∧ (bs = -1 → q = 0)) ∨ (∃ u, p ≤ u ∧ u < p + q ∧ (p_X6_counsel_98q1 pb ru Fst Fro Fmo Fkd Fcd Fsr ffa fga v0 v1 s9 vo q p bs ms).2.1 = nI u ∧ (p_X6_counsel_98q1 pb ru Fst Fro Fmo Fkd Fcd Fsr ffa fga v0 v1 s9 vo q p bs ms).2.2 = (m_X6_tellsPlaces_ga pb ru Fst Fro Fmo Fkd Fcd Fsr ffa fga (nC v0) (nC v1) (6 * nOn (nAll pb - s9 - 1) + u) + vo (nOr (nAll pb - s9 - 1) u)) ∧ (∀ x, p ≤ x → x < u → ¬ (m_X6_tellsPlaces_ga pb ru Fst Fro Fmo Fkd Fcd Fsr ffa fga (nC v0) (nC v1) (6 * nOn (nAll pb - s9 - 1) + x) + vo (nOr (nAll pb - s9 - 1) x)) = (m_X6_tellsPlaces_ga pb ru Fst Fro Fmo Fkd Fcd Fsr ffa fga (nC v0) (nC v1) (6 * nOn (nAll pb - s9 - 1) + u) + vo (nOr (nAll pb - s9 - 1) u))) ∧ (¬ bs = -1 → ms < (m_X6_tellsPlaces_ga pb ru Fst Fro Fmo Fkd Fcd Fsr ffa fga (nC v0) (nC v1) (6 * nOn (nAll pb - s9 - 1) + u) + vo (nOr (nAll pb - s9 - 1) u))))
  | 0, p, bs, ms, h => Or.inl ⟨rfl, rfl, fun _ => rfl⟩
  | q + 1, p, bs, ms, h => by
    have c : ((nI (nAll pb - s9 - 1) >>> (nI p &&& 31)) &&& 1) = 0 := by rw [hS]; exact bit_0 (by omega)
    rw [p_X6_counsel_98q1, if_pos c, Int32.one_mul]
    by_cases z : bs = -1
    · rw [if_pos z]
      rcases arg_max hS hpb q (p + 1) (nI p) (m_X6_tellsPlaces_ga pb ru Fst Fro Fmo Fkd Fcd Fsr ffa fga (nC v0) (nC v1) (6 * nOn (nAll pb - s9 - 1) + p) + vo (nOr (nAll pb - s9 - 1) p)) (by omega) with ⟨a1, a2, a3⟩ | ⟨u, u1, u2, a1, a2, a3, a4⟩
      · exact Or.inr ⟨p, Nat.le_refl _, by omega, a1, a2, fun x h1 h2 => absurd h1 (by omega), fun y => absurd z y⟩
      · refine Or.inr ⟨u, by omega, by omega, a1, a2, fun x h1 h2 => ?_, fun y => absurd z y⟩
        by_cases e : x = p
        · rw [e]; exact fun w => absurd (a4 (nI_nn (by omega))) (by rw [w]; exact Int32.lt_irrefl)
        · exact a3 x (by omega) h2
    · rw [if_neg z]
      by_cases d : (m_X6_tellsPlaces_ga pb ru Fst Fro Fmo Fkd Fcd Fsr ffa fga (nC v0) (nC v1) (6 * nOn (nAll pb - s9 - 1) + p) + vo (nOr (nAll pb - s9 - 1) p)) ≤ ms
      · rw [if_pos d]
        rcases arg_max hS hpb q (p + 1) bs ms (by omega) with ⟨a1, a2, a3⟩ | ⟨u, u1, u2, a1, a2, a3, a4⟩
        · exact Or.inl ⟨a1, a2, fun y => absurd y z⟩
        · refine Or.inr ⟨u, by omega, by omega, a1, a2, fun x h1 h2 => ?_, a4⟩
          by_cases e : x = p
          · rw [e]; exact fun w => absurd (i_lelt d (a4 z)) (by rw [w]; exact Int32.lt_irrefl)
          · exact a3 x (by omega) h2
      · rw [if_neg d]
        have d' := Int32.not_le.mp d
        rcases arg_max hS hpb q (p + 1) (nI p) (m_X6_tellsPlaces_ga pb ru Fst Fro Fmo Fkd Fcd Fsr ffa fga (nC v0) (nC v1) (6 * nOn (nAll pb - s9 - 1) + p) + vo (nOr (nAll pb - s9 - 1) p)) (by omega) with ⟨a1, a2, a3⟩ | ⟨u, u1, u2, a1, a2, a3, a4⟩
        · exact Or.inr ⟨p, Nat.le_refl _, by omega, a1, a2, fun x h1 h2 => absurd h1 (by omega), fun _ => d'⟩
        · have w9 := a4 (nI_nn (by omega))
          refine Or.inr ⟨u, by omega, by omega, a1, a2, fun x h1 h2 => ?_, fun _ => i_ltle d' (i_le w9)⟩
          by_cases e : x = p
          · rw [e]; exact fun w => absurd w9 (by rw [w]; exact Int32.lt_irrefl)
          · exact a3 x (by omega) h2
theorem ch_run {X : Nat → Int32} {u : Nat} (hpb : pb ≤ 6) (hu : u < pb) (hA : ∀ x, x < pb → (wAt w0 w1 w2 w3 w4 w5 (nOn 0) x + tr (nOr 0 x)) = X x) (h0 : tr 0 = X u) (hn : ∀ x, x < u → ¬ X x = X u) : ∀ (q p : Nat), p ≤ u → u < p + q → p + q ≤ pb → p_X4_chosen_8 tr w0 w1 w2 w3 w4 w5 0 q p = u
  | 0, p, h1, h2, h3 => absurd h2 (by omega)
  | q + 1, p, h1, h2, h3 => by
    rw [p_X4_chosen_8, if_pos (bit_0 (show p < 6 by omega)), hA p (by omega), h0]
    by_cases e : p = u
    · rw [if_pos (by rw [e])]; exact e
    · rw [if_neg (hn p (by omega))]; exact ch_run hpb hu hA h0 hn q (p + 1) (by omega) (by omega) (by omega)
end R7
section R8
variable {fct : Nat → Int32} {fet : Nat → Nat} {Fcd : Nat → Int32} {Fsr : Nat → Nat} {ru pb jg : Nat} {fso fmi fpa fki fmo fsz frd Fro Fkd Fmo Fst ffa fga ftr fvo w0 w1 w2 w3 w4 w5 : Nat → Int32} {v0 v1 v2 : Int32}
theorem counsel_res (hw : mWx fct fet) (hT : TxR fct fet Fcd Fsr ru) (hJ : CtJ fso fmi fpa Fro) (hP : CtP pb fki fmo fsz frd Fkd Fmo Fst) (rJ : RgJ fso fpa) (rP : RgP pb fmo fsz) (hjg : jg ≤ 4) (hpb : pb ≤ 6) : m_X5_counsel jg pb fet fso fmi fpa fki fmo fsz frd fct ftr w0 w1 w2 w3 w4 w5 v0 v1 v2 = m_X6_counsel pb jg ru Fst Fro Fmo Fkd Fcd Fsr ffa fga fvo v0 v1 v2 := by
  unfold m_X5_counsel m_X6_counsel
  by_cases a : mHas jg v0 = true
  case neg => rw [if_neg a, if_neg a]
  have hj := mHas_lt (by omega) a
  have hj4 : nC v0 < 4 := by omega
  rw [if_pos a, if_pos a]
  by_cases b : 0 ≤ v1 ∧ v1 ≤ 60
  case neg => rw [if_neg b, if_neg b]
  rw [if_pos b, if_pos b]
  by_cases d : 0 ≤ v2 ∧ v2 ≤ 1
  case neg => rw [if_neg d, if_neg d]
  rw [if_pos d, if_pos d]
  have hW := fun k p hk hp => (weigh_eq (v2 := 1) (nn := nC v1) (ffa := ffa) (fga := fga) (w0 := w0) (w1 := w1) (w2 := w2) (w3 := w3) (w4 := w4) (w5 := w5) hw hT hJ hP rJ rP hj4 hpb k p hk hp).trans (if_neg (show ¬ (1 : Int32) = 0 by decide))
  have h01 := fun k p hk hp => ga_01 (nn := nC v1) (ffa := ffa) (fga := fga) hw hT hJ hP rJ rP hj4 hpb k p hk hp
  obtain ⟨r1, r2, r3⟩ := dp_run hpb hW h01 (nAll pb - 0) 0 (-1) (upd ftr (nAll pb) 0) (upd fvo (nAll pb) 0) (by omega) (fun S h1 h2 => by
    have e : S = nAll pb := by omega
    rw [upd_a9 e, upd_a9 e]; exact ⟨rfl, Bd_0⟩)
  rcases v_c2 d with e | e <;> subst e
  · rw [c_i0, if_pos (show nI 0 = 0 from rfl), if_pos (show nI 0 = 0 from rfl)]
    exact r1 0 (Nat.zero_le _)
  · rw [c_i1, if_neg (show ¬ nI 1 = 0 by decide), if_neg (show ¬ nI 1 = 0 by decide)]
    by_cases z : pb = 0
    · subst z
      have x := r2 (by decide)
      refine Eq.trans ?_ x.symm
      rfl
    · have h1 := nAll_1 hpb (by omega)
      obtain ⟨vz, z1, z2, z3⟩ := r3 (by omega)
      have hS : nAll pb - (nAll pb - 1) - 1 = 0 := by omega
      rcases arg_max (vo := vz) (ru := ru) (Fst := Fst) (Fro := Fro) (Fmo := Fmo) (Fkd := Fkd) (Fcd := Fcd) (Fsr := Fsr) (ffa := ffa) (fga := fga) (v0 := v0) (v1 := v1) hS hpb (pb - 0) 0 (-1) 0 (by omega) with ⟨a1, a2, a3⟩ | ⟨u, u1, u2, a1, a2, a3, a4⟩
      · exact absurd (a3 rfl) (by omega)
      · rw [hS] at a2 a3
        refine Eq.trans ?_ (z2.trans a1).symm
        have hch := ch_run (X := fun x => (m_X6_tellsPlaces_ga pb ru Fst Fro Fmo Fkd Fcd Fsr ffa fga (nC v0) (nC v1) (6 * nOn 0 + x) + vz (nOr 0 x))) (u := u) hpb (by omega) (fun x hx => by
          have i := or_in hpb (Nat.zero_le _) hx
          rw [hW (nOn 0) x (on_lt hpb (by omega)) hx, r1 (nOr 0 x) i, ← z1 (nOr 0 x) (or_1 (by omega)) i]) ((r1 0 (Nat.zero_le _)).trans (z3.trans a2)) (fun x hx => a3 x (Nat.zero_le _) hx) (pb - 0) 0 (Nat.zero_le _) (by omega) (by omega)
        unfold m_X4_chosen
        refine Eq.trans (if_neg ?_) ?_
        · unfold g_X4_chosen_8 m_X4_solve_tr g_X4_solve_18
          rw [hch]
          exact fun z9 => absurd (nI_le1 (by omega) (by omega) z9) (by omega)
        · unfold g_X4_chosen_8 m_X4_solve_tr g_X4_solve_18
          rw [hch]
end R8
