/-! what the reference tries and lays back -/
theorem upd_back {f g : Nat → Int32} {k : Nat} (h : ∀ i, ¬ i = k → g i = f i) : upd g k (f k) = f := funext (fun i => by
  by_cases c : i = k
  · rw [upd_a9 c, c]
  · rw [upd_n9 c]; exact h i c)
section LB
variable {pb jg ru jn nn : Nat} {fst fro fmo fkd fcd fce fss ffa fga : Nat → Int32} {fsr fsq : Nat → Nat} {v0 v1 v2 v3 : Int32}
theorem thick_out : ∀ (q w : Nat) (be : Int32) (y : Nat → Int32) (i : Nat), ¬ i = 3 * nC v0 → (p_X6_thick_45 ru fst fmo fkd fcd fsr v0 v1 v2 q w be y).2.2 i = y i
  | 0, w, be, y, i, h => rfl
  | q + 1, w, be, y, i, h => by
    rw [p_X6_thick_45]
    repeat' split
    all_goals first
      | rfl
      | (rw [thick_out q _ _ _ i h, upd_n9 h])
theorem thick_ro : m_X6_thick_ro pb jg ru fst fro fmo fkd fcd fsr v0 v1 v2 = fro := by
  unfold m_X6_thick_ro g_X6_thick_45
  repeat' split
  all_goals first
    | rfl
    | exact upd_back (fun i h => thick_out _ _ _ _ i h)
theorem soled_out : ∀ (q w : Nat) (be : Int32) (y : Nat → Int32) (i : Nat), ¬ i = 3 * nC v1 → (p_X6_soled_29 ru fst fmo fkd fcd fsr fsq fce v0 v1 q w be y).2.2 i = y i
  | 0, w, be, y, i, h => rfl
  | q + 1, w, be, y, i, h => by
    rw [p_X6_soled_29]
    repeat' split
    all_goals first
      | rfl
      | (rw [soled_out q _ _ _ i h, upd_n9 h])
theorem soled_ro : m_X6_soled_ro pb jg ru fst fro fmo fkd fcd fsr fsq fce fss v0 v1 = fro := by
  unfold m_X6_soled_ro g_X6_soled_29
  repeat' split
  all_goals first
    | rfl
    | exact upd_back (fun i h => soled_out _ _ _ _ i h)
theorem kinds_out : ∀ (q w : Nat) (be : Int32) (y z : Nat → Int32) (i : Nat), ¬ i = nC v2 → (p_X6_kinds_62 ru fst fro fmo fcd fsr fsq fce v0 v1 v2 q w be y z).2.2.1 i = y i ∧ (p_X6_kinds_62 ru fst fro fmo fcd fsr fsq fce v0 v1 v2 q w be y z).2.2.2 i = z i
  | 0, w, be, y, z, i, h => ⟨rfl, rfl⟩
  | q + 1, w, be, y, z, i, h => by
    rw [p_X6_kinds_62]
    split
    · obtain ⟨a, b⟩ := kinds_out q (w + 1) (be ||| (1 <<< ((nI w) &&& 31))) (upd y (nC v2) (nI w)) (upd z (nC v2) (fmo (nC v2))) i h
      exact ⟨a.trans (upd_n9 h), b.trans (upd_n9 h)⟩
    · obtain ⟨a, b⟩ := kinds_out q (w + 1) (be ||| 0) (upd y (nC v2) (nI w)) (upd z (nC v2) (fmo (nC v2))) i h
      exact ⟨a.trans (upd_n9 h), b.trans (upd_n9 h)⟩
theorem kindsq_out : ∀ (q w : Nat) (be : Int32) (y z : Nat → Int32) (i : Nat), ¬ i = nC v2 → (p_X6_kinds_62q1 ru fst fro fkd fcd fsr fsq fce v0 v1 v2 q w be y z).2.2.1 i = y i ∧ (p_X6_kinds_62q1 ru fst fro fkd fcd fsr fsq fce v0 v1 v2 q w be y z).2.2.2 i = z i
  | 0, w, be, y, z, i, h => ⟨rfl, rfl⟩
  | q + 1, w, be, y, z, i, h => by
    rw [p_X6_kinds_62q1]
    split
    · obtain ⟨a, b⟩ := kindsq_out q (w + 1) (be ||| (1 <<< ((nI w) &&& 31))) (upd y (nC v2) (fkd (nC v2))) (upd z (nC v2) (nI w)) i h
      exact ⟨a.trans (upd_n9 h), b.trans (upd_n9 h)⟩
    · obtain ⟨a, b⟩ := kindsq_out q (w + 1) (be ||| 0) (upd y (nC v2) (fkd (nC v2))) (upd z (nC v2) (nI w)) i h
      exact ⟨a.trans (upd_n9 h), b.trans (upd_n9 h)⟩
theorem kinds_kd : m_X6_kinds_kd pb jg ru fst fro fmo fkd fcd fsr fsq fce fss v0 v1 v2 v3 = fkd := by
  unfold m_X6_kinds_kd g_X6_kinds_62 g_X6_kinds_62q1
  repeat' split
  all_goals first
    | rfl
    | exact upd_back (fun i h => (kinds_out _ _ _ _ _ i h).1)
    | exact upd_back (fun i h => (kindsq_out _ _ _ _ _ i h).1)
theorem kinds_mo : m_X6_kinds_mo pb jg ru fst fro fmo fkd fcd fsr fsq fce fss v0 v1 v2 v3 = fmo := by
  unfold m_X6_kinds_mo g_X6_kinds_62 g_X6_kinds_62q1
  repeat' split
  all_goals first
    | rfl
    | exact upd_back (fun i h => (kinds_out _ _ _ _ _ i h).2)
    | exact upd_back (fun i h => (kindsq_out _ _ _ _ _ i h).2)
theorem sizes_out : ∀ (q w : Nat) (be le : Int32) (y : Nat → Int32) (i : Nat), ¬ i = 2 * nC v2 + nC v3 / 10 → (p_X6_sizes_79 ru fro fmo fkd fcd fsr fsq fce v0 v1 v2 v3 q w be le y).2.2.2 i = y i
  | 0, w, be, le, y, i, h => rfl
  | q + 1, w, be, le, y, i, h => by
    rw [p_X6_sizes_79]
    repeat' split
    all_goals (rw [sizes_out q _ _ _ _ i h, upd_n9 h])
theorem sizes_st : m_X6_sizes_st pb jg ru fst fro fmo fkd fcd fsr fsq fce fss v0 v1 v2 v3 = fst := by
  unfold m_X6_sizes_st g_X6_sizes_79
  repeat' split
  all_goals first
    | rfl
    | exact upd_back (fun i h => sizes_out _ _ _ _ _ i h)
theorem places_in : ∀ (q t : Nat) (y : Nat → Int32) (i : Nat), ¬ i = 3 * jn → ¬ i = 3 * jn + 1 → (p_X6_tellsPlaces_104 jn q t y).2 i = y i
  | 0, t, y, i, h, h1 => rfl
  | q + 1, t, y, i, h, h1 => by
    rw [p_X6_tellsPlaces_104]
    split
    · rw [places_in q _ _ i h h1, upd_n9 h, upd_n9 h1]
    · rw [places_in q _ _ i h h1, upd_n9 h, upd_n9 h1]
theorem places_out : ∀ (q k : Nat) (y z w : Nat → Int32) (i : Nat), ¬ i = 3 * jn → ¬ i = 3 * jn + 1 → (p_X6_tellsPlaces_24 pb ru fst fmo fkd fcd fsr jn nn q k y z w).2.1 i = y i
  | 0, k, y, z, w, i, h, h1 => rfl
  | q + 1, k, y, z, w, i, h, h1 => by
    rw [p_X6_tellsPlaces_24, places_out q _ _ _ _ i h h1]
    exact places_in _ _ _ i h h1
theorem places_ro : m_X6_tellsPlaces_ro pb ru fst fro fmo fkd fcd fsr ffa fga jn nn = fro := by
  unfold m_X6_tellsPlaces_ro
  refine upd_back (f := fro) (fun i h => ?_)
  by_cases c : i = 3 * jn
  · rw [upd_a9 c, c]
  · rw [upd_n9 c]; exact places_out _ _ _ _ _ i c h
theorem order_ro : m_X6_order_ro pb jg ru fst fro fmo fkd fcd fsr ffa fga v0 v1 v2 = fro := by
  unfold m_X6_order_ro
  repeat' split
  all_goals first
    | rfl
    | exact places_ro
theorem counsel_ro : m_X6_counsel_ro pb jg ru fst fro fmo fkd fcd fsr ffa fga v0 v1 v2 = fro := by
  unfold m_X6_counsel_ro
  repeat' split
  all_goals first
    | rfl
    | exact places_ro
end LB
