/-! the order by which he limps least: all orders, one behind the other, against the table of sets -/
theorem on_up {s p : Nat} (h : s < 64) (hp : p < 6) : nOn (nOr s p) ≤ nOn s + 1 := (by decide +kernel : ∀ s, s < 64 → ∀ p, p < 6 → nOn (nOr s p) ≤ nOn s + 1) s h p hp
theorem or_same {s p : Nat} (h : s < 64) (hp : p < 6) (c : ¬ ((nI s >>> (nI p &&& 31)) &&& 1) = 0) : nOr s p = s := (by decide +kernel : ∀ s, s < 64 → ∀ p, p < 6 → ¬ ((nI s >>> (nI p &&& 31)) &&& 1) = 0 → nOr s p = s) s h p hp c
theorem on_all {n : Nat} (hn : n ≤ 6) : nOn (nAll n) = n := (by decide +kernel : ∀ n, n < 7 → nOn (nAll n) = n) n (by omega)
theorem on_full {n s : Nat} (hn : n ≤ 6) (hs : s ≤ nAll n) (h : nOn s = n) : s = nAll n := (by decide +kernel : ∀ n, n < 7 → ∀ s, s < 64 → s ≤ nAll n → nOn s = n → s = nAll n) n (by omega) s (by have := nAll_le hn; omega) hs h
theorem bit_ex {n s : Nat} (hn : n ≤ 6) (hs : s < nAll n) : ∃ p, p < n ∧ ((nI s >>> (nI p &&& 31)) &&& 1) = 0 := by
  have h := (by decide +kernel : ∀ n, n < 7 → ∀ s, s < 64 → s < nAll n → (List.range n).any (fun p => decide (((nI s >>> (nI p &&& 31)) &&& 1) = 0)) = true) n (by omega) s (by have := nAll_le hn; omega) hs
  obtain ⟨p, h1, h2⟩ := List.any_eq_true.mp h
  exact ⟨p, List.mem_range.mp h1, of_decide_eq_true h2⟩
noncomputable def dM (n : Nat) : Nat → Nat → Nat
  | 0, x => 0
  | q + 1, x => nOr (dM n q (x / n)) (x % n)
noncomputable def dV (n : Nat) (F : Nat → Int32) : Nat → Nat → Int32
  | 0, x => 0
  | q + 1, x => dV n F q (x / n) + F (6 * q + x % n)
noncomputable def dN (n : Nat) : Nat → Nat → Nat
  | 0, x => 0
  | q + 1, x => 10 * dN n q (x / n) + (x % n + 1)
noncomputable def gN (ch : Nat → Nat) : Nat → Nat → Nat → Nat
  | 0, S, D => D
  | m + 1, S, D => gN ch m (nOr S (ch S)) (10 * D + (ch S + 1))
noncomputable def oS (T : Nat → Bool) (V D : Nat → Int32) : Nat → Nat → Int32 → Int32 → Int32 × Int32
  | 0, x, be, le => (be, le)
  | q + 1, x, be, le => if T x = true then (if be = -1 then oS T V D q (x + 1) (D x) (V x) else (if le ≤ V x then oS T V D q (x + 1) be le else oS T V D q (x + 1) (D x) (V x))) else oS T V D q (x + 1) be le
section O1
variable {n : Nat} {F R V D : Nat → Int32} {T : Nat → Bool} {ch : Nat → Nat}
theorem dM_le (h1 : 1 ≤ n) (h6 : n ≤ 6) : ∀ (q x : Nat), dM n q x ≤ nAll n
  | 0, x => Nat.zero_le _
  | q + 1, x => or_in h6 (dM_le h1 h6 q (x / n)) (Nat.mod_lt x (by omega))
theorem dM_64 (h1 : 1 ≤ n) (h6 : n ≤ 6) (q x : Nat) : dM n q x < 64 := by
  have a := dM_le h1 h6 q x
  have b := nAll_le h6
  omega
theorem dM_on (h1 : 1 ≤ n) (h6 : n ≤ 6) : ∀ (q x : Nat), nOn (dM n q x) ≤ q
  | 0, x => (by decide +kernel : nOn 0 ≤ 0)
  | q + 1, x => by
    have a := dM_on h1 h6 q (x / n)
    have d : x % n < n := Nat.mod_lt x (by omega)
    have b := on_up (dM_64 h1 h6 q (x / n)) (show x % n < 6 by omega)
    show nOn (nOr (dM n q (x / n)) (x % n)) ≤ q + 1
    omega
theorem dN_lt (h1 : 1 ≤ n) (h6 : n ≤ 6) : ∀ (q x : Nat), dN n q x < 10 ^ q
  | 0, x => by show 0 < 1; omega
  | q + 1, x => by
    have a := dN_lt h1 h6 q (x / n)
    have d : x % n < n := Nat.mod_lt x (by omega)
    show 10 * dN n q (x / n) + (x % n + 1) < 10 ^ (q + 1)
    rw [Nat.pow_succ]
    omega
theorem gN_lt (hc : ∀ S, ch S ≤ 6) : ∀ (m k S D : Nat), D < 10 ^ k → gN ch m S D < 10 ^ (k + m)
  | 0, k, S, D, h => h
  | m + 1, k, S, D, h => by
    have a := hc S
    have b := gN_lt hc m (k + 1) (nOr S (ch S)) (10 * D + (ch S + 1)) (by rw [Nat.pow_succ]; omega)
    rw [show k + (m + 1) = k + 1 + m by omega]
    exact b
theorem oS_add : ∀ (a b x : Nat) (be le : Int32), oS T V D (a + b) x be le = oS T V D b (x + a) (oS T V D a x be le).1 (oS T V D a x be le).2
  | 0, b, x, be, le => by rw [Nat.zero_add]; rfl
  | a + 1, b, x, be, le => by
    have e : x + (a + 1) = x + 1 + a := by omega
    rw [show a + 1 + b = (a + b) + 1 by omega, e, oS]
    by_cases t : T x = true
    · by_cases d : be = -1
      · have f : oS T V D (a + 1) x be le = oS T V D a (x + 1) (D x) (V x) := by rw [oS, if_pos t, if_pos d]
        rw [f, if_pos t, if_pos d]; exact oS_add a b (x + 1) _ _
      · by_cases l : le ≤ V x
        · have f : oS T V D (a + 1) x be le = oS T V D a (x + 1) be le := by rw [oS, if_pos t, if_neg d, if_pos l]
          rw [f, if_pos t, if_neg d, if_pos l]; exact oS_add a b (x + 1) _ _
        · have f : oS T V D (a + 1) x be le = oS T V D a (x + 1) (D x) (V x) := by rw [oS, if_pos t, if_neg d, if_neg l]
          rw [f, if_pos t, if_neg d, if_neg l]; exact oS_add a b (x + 1) _ _
    · have f : oS T V D (a + 1) x be le = oS T V D a (x + 1) be le := by rw [oS, if_neg t]
      rw [f, if_neg t]; exact oS_add a b (x + 1) _ _
/-- the table of sets: what the others come to, and who is chosen -/
def TbR (n : Nat) (F R : Nat → Int32) (ch : Nat → Nat) : Prop := R (nAll n) = 0 ∧ (∀ S, S < nAll n → ch S < n ∧ ((nI S >>> (nI (ch S) &&& 31)) &&& 1) = 0 ∧ R S = F (6 * nOn S + ch S) + R (nOr S (ch S)) ∧ ∀ p, p < n → ((nI S >>> (nI p &&& 31)) &&& 1) = 0 → (R S).toInt ≤ (F (6 * nOn S + p)).toInt + (R (nOr S p)).toInt ∧ (p < ch S → (R S).toInt < (F (6 * nOn S + p)).toInt + (R (nOr S p)).toInt)) ∧ (∀ k p, k < n → p < n → Bd (F (6 * k + p)) 12960) ∧ (∀ S, S ≤ nAll n → Bd (R S) ((6 - nOn S) * 12960)) ∧ ∀ S, ch S ≤ 6
theorem dV_bd (h1 : 1 ≤ n) (hF : ∀ k p, k < n → p < n → Bd (F (6 * k + p)) 12960) : ∀ (q x : Nat), q ≤ n → n ≤ 6 → Bd (dV n F q x) (q * 12960)
  | 0, x, h, h6 => Bd_0
  | q + 1, x, h, h6 => by
    have a := dV_bd h1 hF q (x / n) (by omega) h6
    have b := hF q (x % n) (by omega) (Nat.mod_lt x (by omega))
    exact Bd_up (Bd_add a b (by omega)) (by omega)
theorem dg_div {P j : Nat} (hj : j < n) : (P * n + j) / n = P := by
  rw [Nat.add_comm, Nat.add_mul_div_right _ _ (by omega), Nat.div_eq_of_lt hj, Nat.zero_add]
theorem dg_mod {P j : Nat} (hj : j < n) : (P * n + j) % n = j := by
  rw [Nat.add_comm, Nat.add_mul_mod_self_right, Nat.mod_eq_of_lt hj]
theorem blk (hok : TbR n F R ch) (h1 : 1 ≤ n) (h6 : n ≤ 6) (hT : ∀ x, T x = decide (dM n n x = nAll n)) (hV : ∀ x, V x = dV n F n x) (hD : ∀ x, D x = nI (dN n n x)) : ∀ (m k P : Nat) (be le : Int32), k + m = n → oS T V D (n ^ m) (P * n ^ m) be le = if nOn (dM n k P) = k ∧ (be = -1 ∨ dV n F k P + R (dM n k P) < le) then (nI (gN ch m (dM n k P) (dN n k P)), dV n F k P + R (dM n k P)) else (be, le)
  | 0, k, P, be, le, h => by
    have e : k = n := by omega
    rw [Nat.pow_zero, Nat.mul_one, e]
    show (if T P = true then (if be = -1 then (D P, V P) else (if le ≤ V P then (be, le) else (D P, V P))) else (be, le)) = _
    rw [hT, hV, hD]
    by_cases t : dM n n P = nAll n
    · have r0 : R (dM n n P) = 0 := by rw [t]; exact hok.1
      have n0 : nOn (dM n n P) = n := by rw [t]; exact on_all h6
      rw [if_pos (decide_eq_true t), r0, Int32.add_zero]
      by_cases d : be = -1
      · rw [if_pos d, if_pos (show nOn (dM n n P) = n ∧ (be = -1 ∨ dV n F n P < le) from ⟨n0, Or.inl d⟩)]; rfl
      · rw [if_neg d]
        by_cases l : le ≤ dV n F n P
        · rw [if_pos l, if_neg (show ¬ (nOn (dM n n P) = n ∧ (be = -1 ∨ dV n F n P < le)) from fun z => z.2.elim d (fun w => Int32.not_le.mpr w l))]
        · rw [if_neg l, if_pos (show nOn (dM n n P) = n ∧ (be = -1 ∨ dV n F n P < le) from ⟨n0, Or.inr (Int32.not_le.mp l)⟩)]; rfl
    · rw [if_neg (show ¬ decide (dM n n P = nAll n) = true from fun z => t (of_decide_eq_true z)), if_neg (show ¬ (nOn (dM n n P) = n ∧ (be = -1 ∨ dV n F n P + R (dM n n P) < le)) from fun z => t (on_full h6 (dM_le h1 h6 n P) z.1))]
  | m + 1, k, P, be, le, h => by
    obtain ⟨-, hS, hF, hR, hc⟩ := id hok
    have hs64 := dM_64 h1 h6 k P
    have hsn := dM_le h1 h6 k P
    have hon := dM_on h1 h6 k P
    have hdn := dN_lt h1 h6 k P
    have v0 := dV_bd h1 hF k P (by omega) h6
    have step : ∀ j, j < n → ∀ st : Int32 × Int32, oS T V D (n ^ m) (P * n ^ (m + 1) + j * n ^ m) st.1 st.2 = if nOn (nOr (dM n k P) j) = k + 1 ∧ (st.1 = -1 ∨ dV n F k P + F (6 * k + j) + R (nOr (dM n k P) j) < st.2) then (nI (gN ch m (nOr (dM n k P) j) (10 * dN n k P + (j + 1))), dV n F k P + F (6 * k + j) + R (nOr (dM n k P) j)) else (st.1, st.2) := fun j hj st => by
      have i := blk hok h1 h6 hT hV hD m (k + 1) (P * n + j) st.1 st.2 (by omega)
      have eM : dM n (k + 1) (P * n + j) = nOr (dM n k P) j := by
        show nOr (dM n k ((P * n + j) / n)) ((P * n + j) % n) = _
        rw [dg_div hj, dg_mod hj]
      have eV : dV n F (k + 1) (P * n + j) = dV n F k P + F (6 * k + j) := by
        show dV n F k ((P * n + j) / n) + F (6 * k + (P * n + j) % n) = _
        rw [dg_div hj, dg_mod hj]
      have eN : dN n (k + 1) (P * n + j) = 10 * dN n k P + (j + 1) := by
        show 10 * dN n k ((P * n + j) / n) + ((P * n + j) % n + 1) = _
        rw [dg_div hj, dg_mod hj]
      rw [eM, eV, eN] at i
      rw [show P * n ^ (m + 1) + j * n ^ m = (P * n + j) * n ^ m by rw [Nat.pow_succ', ← Nat.mul_assoc, ← Nat.add_mul]]
      exact i
    have next : ∀ j, oS T V D ((j + 1) * n ^ m) (P * n ^ (m + 1)) be le = oS T V D (n ^ m) (P * n ^ (m + 1) + j * n ^ m) (oS T V D (j * n ^ m) (P * n ^ (m + 1)) be le).1 (oS T V D (j * n ^ m) (P * n ^ (m + 1)) be le).2 := fun j => by
      rw [Nat.succ_mul]; exact oS_add _ _ _ _ _
    have z0 : oS T V D (0 * n ^ m) (P * n ^ (m + 1)) be le = (be, le) := by rw [Nat.zero_mul]; rfl
    have ep : n ^ (m + 1) = n * n ^ m := Nat.pow_succ'
    by_cases k0 : nOn (dM n k P) = k
    case neg =>
      rw [if_neg (show ¬ (nOn (dM n k P) = k ∧ (be = -1 ∨ dV n F k P + R (dM n k P) < le)) from fun z => k0 z.1)]
      have all : ∀ j, j ≤ n → oS T V D (j * n ^ m) (P * n ^ (m + 1)) be le = (be, le) := fun j => by
        induction j with
        | zero => exact fun _ => z0
        | succ j ih =>
          intro hj
          have u := on_up hs64 (show j < 6 by omega)
          rw [next j, ih (by omega), step j (by omega) (be, le), if_neg (show ¬ (nOn (nOr (dM n k P) j) = k + 1 ∧ ((be, le).1 = -1 ∨ dV n F k P + F (6 * k + j) + R (nOr (dM n k P) j) < (be, le).2)) from fun z => absurd z.1 (by omega))]
      have f := all n (Nat.le_refl n)
      rw [← ep] at f
      exact f
    have sl : dM n k P < nAll n := by
      rcases Nat.lt_or_ge (dM n k P) (nAll n) with z | z
      · exact z
      · have e9 : dM n k P = nAll n := by omega
        have o9 := on_all h6
        rw [e9] at k0
        omega
    obtain ⟨c1, c2, c3, c4⟩ := hS (dM n k P) sl
    rw [k0] at c3 c4
    have hRS := hR (dM n k P) hsn
    -- what a candidate comes to
    have cand : ∀ j, j < n → ((nI (dM n k P) >>> (nI j &&& 31)) &&& 1) = 0 → nOn (nOr (dM n k P) j) = k + 1 ∧ (dV n F k P + F (6 * k + j) + R (nOr (dM n k P) j)).toInt = (dV n F k P).toInt + (F (6 * k + j)).toInt + (R (nOr (dM n k P) j)).toInt := fun j hj hb => by
      have on := on_or hs64 (show j < 6 by omega) hb
      have r := hR (nOr (dM n k P) j) (or_in h6 hsn hj)
      have f := hF k j (by omega) hj
      refine ⟨by omega, ?_⟩
      have s1 := Bd_add v0 f (by omega)
      have e1 := t_add (a := dV n F k P) (b := F (6 * k + j)) (by have := v0.1; have := v0.2; have := f.1; have := f.2; omega) (by have := v0.1; have := v0.2; have := f.1; have := f.2; omega)
      have e2 := t_add (a := dV n F k P + F (6 * k + j)) (b := R (nOr (dM n k P) j)) (by have := s1.1; have := s1.2; have := r.1; have := r.2; omega) (by have := s1.1; have := s1.2; have := r.1; have := r.2; omega)
      rw [e2, e1]
    have vs : (dV n F k P + R (dM n k P)).toInt = (dV n F k P).toInt + (R (dM n k P)).toInt := t_add (by have := v0.1; have := v0.2; have := hRS.1; have := hRS.2; omega) (by have := v0.1; have := v0.2; have := hRS.1; have := hRS.2; omega)
    by_cases good : be = -1 ∨ dV n F k P + R (dM n k P) < le
    case neg =>
      rw [if_neg (show ¬ (nOn (dM n k P) = k ∧ (be = -1 ∨ dV n F k P + R (dM n k P) < le)) from fun z => good z.2)]
      have b1 : ¬ be = -1 := fun z => good (Or.inl z)
      have b2 : ¬ dV n F k P + R (dM n k P) < le := fun z => good (Or.inr z)
      have b3 := Int32.le_iff_toInt_le.mp (Int32.not_lt.mp b2)
      have all : ∀ j, j ≤ n → oS T V D (j * n ^ m) (P * n ^ (m + 1)) be le = (be, le) := fun j => by
        induction j with
        | zero => exact fun _ => z0
        | succ j ih =>
          intro hj
          rw [next j, ih (by omega), step j (by omega) (be, le)]
          by_cases hb : ((nI (dM n k P) >>> (nI j &&& 31)) &&& 1) = 0
          · obtain ⟨q1, q2⟩ := cand j (by omega) hb
            have q3 := (c4 j (by omega) hb).1
            rw [if_neg (show ¬ (nOn (nOr (dM n k P) j) = k + 1 ∧ ((be, le).1 = -1 ∨ dV n F k P + F (6 * k + j) + R (nOr (dM n k P) j) < (be, le).2)) from fun z => z.2.elim b1 (fun w => by
              have w2 := Int32.lt_iff_toInt_lt.mp w
              have w3 : (dV n F k P + F (6 * k + j) + R (nOr (dM n k P) j)).toInt < le.toInt := w2
              omega))]
          · have os := or_same hs64 (show j < 6 by omega) hb
            rw [if_neg (show ¬ (nOn (nOr (dM n k P) j) = k + 1 ∧ ((be, le).1 = -1 ∨ dV n F k P + F (6 * k + j) + R (nOr (dM n k P) j) < (be, le).2)) from fun z => by
              have z1 := z.1
              rw [os] at z1
              omega)]
      have f := all n (Nat.le_refl n)
      rw [← ep] at f
      exact f
    rw [if_pos (show nOn (dM n k P) = k ∧ (be = -1 ∨ dV n F k P + R (dM n k P) < le) from ⟨k0, good⟩)]
    have gl := gN_lt hc (m + 1) k (dM n k P) (dN n k P) hdn
    have g31 : gN ch (m + 1) (dM n k P) (dN n k P) < 2 ^ 31 := Nat.lt_of_lt_of_le gl (Nat.le_trans (Nat.pow_le_pow_right (by omega) (show k + (m + 1) ≤ 6 by omega)) (by decide))
    have all : ∀ j, j ≤ n → (j ≤ ch (dM n k P) → ((oS T V D (j * n ^ m) (P * n ^ (m + 1)) be le).1 = -1 ∨ (dV n F k P + R (dM n k P)).toInt < (oS T V D (j * n ^ m) (P * n ^ (m + 1)) be le).2.toInt)) ∧ (ch (dM n k P) < j → oS T V D (j * n ^ m) (P * n ^ (m + 1)) be le = (nI (gN ch (m + 1) (dM n k P) (dN n k P)), dV n F k P + R (dM n k P))) := fun j => by
      induction j with
      | zero =>
        refine fun _ => ⟨fun _ => ?_, fun z => absurd z (by omega)⟩
        rw [z0]
        exact good.imp id (fun z => Int32.lt_iff_toInt_lt.mp z)
      | succ j ih =>
        intro hj
        obtain ⟨i1, i2⟩ := ih (by omega)
        rw [next j, step j (by omega) (oS T V D (j * n ^ m) (P * n ^ (m + 1)) be le)]
        generalize hst : oS T V D (j * n ^ m) (P * n ^ (m + 1)) be le = st at i1 i2 ⊢
        by_cases hb : ((nI (dM n k P) >>> (nI j &&& 31)) &&& 1) = 0
        · obtain ⟨q1, q2⟩ := cand j (by omega) hb
          obtain ⟨q3, q4⟩ := c4 j (by omega) hb
          rcases Nat.lt_trichotomy j (ch (dM n k P)) with lt | eq | gt
          · refine ⟨fun _ => ?_, fun z => absurd z (by omega)⟩
            have q5 := q4 lt
            by_cases w : nOn (nOr (dM n k P) j) = k + 1 ∧ (st.1 = -1 ∨ dV n F k P + F (6 * k + j) + R (nOr (dM n k P) j) < st.2)
            · rw [if_pos w]
              exact Or.inr (by
                show (dV n F k P + R (dM n k P)).toInt < (dV n F k P + F (6 * k + j) + R (nOr (dM n k P) j)).toInt
                omega)
            · rw [if_neg w]; exact i1 (by omega)
          · refine ⟨fun z => absurd z (by omega), fun _ => ?_⟩
            have e3 : dV n F k P + F (6 * k + j) + R (nOr (dM n k P) j) = dV n F k P + R (dM n k P) := by rw [eq, c3, Int32.add_assoc]
            rw [e3, if_pos (show nOn (nOr (dM n k P) j) = k + 1 ∧ (st.1 = -1 ∨ dV n F k P + R (dM n k P) < st.2) from ⟨q1, (i1 (by omega)).imp id (fun z => Int32.lt_iff_toInt_lt.mpr z)⟩), eq]
            rfl
          · refine ⟨fun z => absurd z (by omega), fun _ => ?_⟩
            have st2 := i2 gt
            rw [st2]
            rw [if_neg (show ¬ (nOn (nOr (dM n k P) j) = k + 1 ∧ (nI (gN ch (m + 1) (dM n k P) (dN n k P)) = -1 ∨ dV n F k P + F (6 * k + j) + R (nOr (dM n k P) j) < dV n F k P + R (dM n k P))) from fun z => z.2.elim (nI_nn g31) (fun w => by
              have w2 := Int32.lt_iff_toInt_lt.mp w
              omega))]
        · have os := or_same hs64 (show j < 6 by omega) hb
          have jc : ¬ j = ch (dM n k P) := fun z => hb (by rw [z]; exact c2)
          rw [if_neg (show ¬ (nOn (nOr (dM n k P) j) = k + 1 ∧ (st.1 = -1 ∨ dV n F k P + F (6 * k + j) + R (nOr (dM n k P) j) < st.2)) from fun z => by
            have z1 := z.1
            rw [os] at z1
            omega)]
          exact ⟨fun z => i1 (by omega), fun z => i2 (by omega)⟩
    have f := (all n (Nat.le_refl n)).2 c1
    rw [← ep] at f
    exact f
end O1
section O2
variable {n : Nat} {F fa ga : Nat → Int32} {v : Int32}
theorem te_run (h1 : 1 ≤ n) (h6 : n ≤ 6) (hF : ∀ i, F i = if v = 0 then fa i else ga i) : ∀ (q k9 re : Nat) (se : Int32) (te : Nat) (z9 z0 : Int32), q + k9 = n → (p_X6_tells_26 n fa ga v q k9 re se (nI te) z9 z0).2.2.1 = se ||| nI (dM n q re) ∧ (p_X6_tells_26 n fa ga v q k9 re se (nI te) z9 z0).2.2.2.2.1 = z9 + dV n F q re ∧ (p_X6_tells_26 n fa ga v q k9 re se (nI te) z9 z0).2.2.2.2.2 = z0 + nI (te * dN n q re)
  | 0, k9, re, se, te, z9, z0, h => ⟨Int32.or_zero.symm, (Int32.add_zero z9).symm, by
      show z0 = z0 + nI (te * 0)
      rw [Nat.mul_zero]
      exact (Int32.add_zero z0).symm⟩
  | q + 1, k9, re, se, te, z9, z0, h => by
    have e : n - k9 - 1 = q := by omega
    have et : nI te * 10 = nI (te * 10) := (Int32.ofNat_mul te 10).symm
    have eb : nI te * nI (re % n + 1) = nI (te * (re % n + 1)) := (Int32.ofNat_mul te (re % n + 1)).symm
    have d : re % n < n := Nat.mod_lt re (by omega)
    have em : nI (dM n q (re / n)) ||| ((1 : Int32) <<< (nI (re % n) &&& 31)) = nI (nOr (dM n q (re / n)) (re % n)) := nOr_eq (dM_64 h1 h6 q (re / n)) (by omega)
    have hF0 := hF (6 * q + re % n)
    rw [p_X6_tells_26, et, eb, e]
    by_cases c : v = 0
    · rw [if_pos c] at hF0
      rw [if_pos c]
      obtain ⟨i1, i2, i3⟩ := te_run h1 h6 hF q (k9 + 1) (re / n) (se ||| ((1 : Int32) <<< (nI (re % n) &&& 31))) (te * 10) (z9 + fa (6 * q + re % n)) (z0 + nI (te * (re % n + 1))) (by omega)
      refine ⟨i1.trans ?_, i2.trans ?_, i3.trans ?_⟩
      · rw [Int32.or_assoc, Int32.or_comm ((1 : Int32) <<< (nI (re % n) &&& 31)), em]; rfl
      · show z9 + fa (6 * q + re % n) + dV n F q (re / n) = z9 + (dV n F q (re / n) + F (6 * q + re % n))
        rw [hF0, Int32.add_assoc, Int32.add_comm (fa (6 * q + re % n))]
      · show z0 + nI (te * (re % n + 1)) + nI (te * 10 * dN n q (re / n)) = z0 + nI (te * (10 * dN n q (re / n) + (re % n + 1)))
        rw [Int32.add_assoc, nI_add, Nat.mul_add te (10 * dN n q (re / n)), ← Nat.mul_assoc, Nat.add_comm]
    · rw [if_neg c] at hF0
      rw [if_neg c]
      obtain ⟨i1, i2, i3⟩ := te_run h1 h6 hF q (k9 + 1) (re / n) (se ||| ((1 : Int32) <<< (nI (re % n) &&& 31))) (te * 10) (z9 + ga (6 * q + re % n)) (z0 + nI (te * (re % n + 1))) (by omega)
      refine ⟨i1.trans ?_, i2.trans ?_, i3.trans ?_⟩
      · rw [Int32.or_assoc, Int32.or_comm ((1 : Int32) <<< (nI (re % n) &&& 31)), em]; rfl
      · show z9 + ga (6 * q + re % n) + dV n F q (re / n) = z9 + (dV n F q (re / n) + F (6 * q + re % n))
        rw [hF0, Int32.add_assoc, Int32.add_comm (ga (6 * q + re % n))]
      · show z0 + nI (te * (re % n + 1)) + nI (te * 10 * dN n q (re / n)) = z0 + nI (te * (10 * dN n q (re / n) + (re % n + 1)))
        rw [Int32.add_assoc, nI_add, Nat.mul_add te (10 * dN n q (re / n)), ← Nat.mul_assoc, Nat.add_comm]
theorem te_all (h1 : 1 ≤ n) (h6 : n ≤ 6) (hF : ∀ i, F i = if v = 0 then fa i else ga i) (x : Nat) : m_X6_tells n fa ga v x = (if decide (dM n n x = nAll n) = true then 1 else 0) ∧ m_X6_tells_h039 n fa ga v x = dV n F n x ∧ m_X6_tells_h040 n fa ga v x = nI (dN n n x) := by
  obtain ⟨i1, i2, i3⟩ := te_run h1 h6 hF n 0 x 0 1 0 0 (by omega)
  unfold m_X6_tells m_X6_tells_h039 m_X6_tells_h040 g_X6_tells_26
  rw [Int32.zero_or] at i1
  rw [Int32.zero_add] at i2
  rw [Int32.zero_add, Nat.one_mul] at i3
  refine ⟨?_, i2, i3⟩
  have i1 : (p_X6_tells_26 n fa ga v (n - 0) 0 x 0 1 0 0).2.2.1 = nI (dM n n x) := i1
  rw [i1, nAll_eq h6]
  have a := dM_le h1 h6 n x
  have b := nAll_le h6
  by_cases c : dM n n x = nAll n
  · rw [if_pos (by rw [c]), if_pos (decide_eq_true c)]
  · rw [if_neg (show ¬ nI (dM n n x) = nI (nAll n) from fun z => c (nI_eq1 (by omega) (by omega) z)), if_neg (show ¬ decide (dM n n x = nAll n) = true from fun z => c (of_decide_eq_true z))]
end O2
section O3
variable {ru pb jg : Nat} {Fcd : Nat → Int32} {Fsr : Nat → Nat} {Fro Fkd Fmo Fst ffa fga V D : Nat → Int32} {T : Nat → Bool} {v0 v1 v2 : Int32}
theorem o95_run (hT : ∀ x, m_X6_tells pb (m_X6_tellsPlaces_fa pb ru Fst Fro Fmo Fkd Fcd Fsr ffa fga (nC v0) (nC v1)) (m_X6_tellsPlaces_ga pb ru Fst Fro Fmo Fkd Fcd Fsr ffa fga (nC v0) (nC v1)) (nI ((nC v2) / 10)) x = if T x = true then 1 else 0) (hV : ∀ x, m_X6_tells_h039 pb (m_X6_tellsPlaces_fa pb ru Fst Fro Fmo Fkd Fcd Fsr ffa fga (nC v0) (nC v1)) (m_X6_tellsPlaces_ga pb ru Fst Fro Fmo Fkd Fcd Fsr ffa fga (nC v0) (nC v1)) (nI ((nC v2) / 10)) x = V x) (hD : ∀ x, m_X6_tells_h040 pb (m_X6_tellsPlaces_fa pb ru Fst Fro Fmo Fkd Fcd Fsr ffa fga (nC v0) (nC v1)) (m_X6_tellsPlaces_ga pb ru Fst Fro Fmo Fkd Fcd Fsr ffa fga (nC v0) (nC v1)) (nI ((nC v2) / 10)) x = D x) : ∀ (q x : Nat) (be le z9 z0 : Int32), (p_X6_order_95 pb ru Fst Fro Fmo Fkd Fcd Fsr ffa fga v0 v1 v2 q x be le z9 z0).2.1 = (oS T V D q x be le).1 ∧ (p_X6_order_95 pb ru Fst Fro Fmo Fkd Fcd Fsr ffa fga v0 v1 v2 q x be le z9 z0).2.2.1 = (oS T V D q x be le).2
  | 0, x, be, le, z9, z0 => ⟨rfl, rfl⟩
  | q + 1, x, be, le, z9, z0 => by
    rw [p_X6_order_95, oS, hT, hV, hD]
    by_cases t : T x = true
    · rw [if_pos t, if_neg (show ¬ (1 : Int32) = 0 by decide), if_pos t]
      by_cases d : be = -1
      · rw [if_pos d, if_pos d]; exact o95_run hT hV hD q (x + 1) _ _ _ _
      · rw [if_neg d, if_neg d]
        by_cases l : le ≤ V x
        · rw [if_pos l, if_pos l]; exact o95_run hT hV hD q (x + 1) _ _ _ _
        · rw [if_neg l, if_neg l]; exact o95_run hT hV hD q (x + 1) _ _ _ _
    · rw [if_neg t, if_pos (show (0 : Int32) = 0 from rfl), if_neg t]; exact o95_run hT hV hD q (x + 1) _ _ _ _
theorem o62_run : ∀ (q i u : Nat), (p_X6_order_62 pb q i u).2 = u * pb ^ q
  | 0, i, u => by show u = u * pb ^ 0; rw [Nat.pow_zero, Nat.mul_one]
  | q + 1, i, u => by rw [p_X6_order_62, o62_run q (i + 1) (u * pb), Nat.pow_succ', Nat.mul_assoc]
end O3
section O4
variable {n s9 : Nat} {F tr w0 w1 w2 w3 w4 w5 : Nat → Int32}
theorem mn_run (h6 : n ≤ 6) (hl : (nAll n - s9 - 1) < nAll n) : ∀ (q p : Nat) (fi be : Int32), p + q = n → ((fi = 1 ∧ ∀ x, x < p → ¬ ((nI (nAll n - s9 - 1) >>> (nI x &&& 31)) &&& 1) = 0) ∨ (fi = 0 ∧ (∃ x, x < p ∧ ((nI (nAll n - s9 - 1) >>> (nI x &&& 31)) &&& 1) = 0 ∧ be = (wAt w0 w1 w2 w3 w4 w5 (nOn (nAll n - s9 - 1)) x + tr (nOr (nAll n - s9 - 1) x))) ∧ ∀ x, x < p → ((nI (nAll n - s9 - 1) >>> (nI x &&& 31)) &&& 1) = 0 → be ≤ (wAt w0 w1 w2 w3 w4 w5 (nOn (nAll n - s9 - 1)) x + tr (nOr (nAll n - s9 - 1) x)))) → (∃ x, x < n ∧ ((nI (nAll n - s9 - 1) >>> (nI x &&& 31)) &&& 1) = 0 ∧ (p_X4_solve_57 w0 w1 w2 w3 w4 w5 n s9 tr q p fi be).2.2 = (wAt w0 w1 w2 w3 w4 w5 (nOn (nAll n - s9 - 1)) x + tr (nOr (nAll n - s9 - 1) x))) ∧ ∀ x, x < n → ((nI (nAll n - s9 - 1) >>> (nI x &&& 31)) &&& 1) = 0 → (p_X4_solve_57 w0 w1 w2 w3 w4 w5 n s9 tr q p fi be).2.2 ≤ (wAt w0 w1 w2 w3 w4 w5 (nOn (nAll n - s9 - 1)) x + tr (nOr (nAll n - s9 - 1) x))
  | 0, p, fi, be, h, hs => by
    have e : p = n := by omega
    rcases hs with ⟨-, z⟩ | ⟨-, z1, z2⟩
    · obtain ⟨x, x1, x2⟩ := bit_ex h6 hl
      exact absurd x2 (z x (by omega))
    · rw [e] at z1 z2; exact ⟨z1, z2⟩
  | q + 1, p, fi, be, h, hs => by
    rw [p_X4_solve_57]
    by_cases c : ((nI (nAll n - s9 - 1) >>> (nI p &&& 31)) &&& 1) = 0
    · rw [if_pos c]
      have new : (∀ x, x < p → ((nI (nAll n - s9 - 1) >>> (nI x &&& 31)) &&& 1) = 0 → (wAt w0 w1 w2 w3 w4 w5 (nOn (nAll n - s9 - 1)) p + tr (nOr (nAll n - s9 - 1) p)) ≤ (wAt w0 w1 w2 w3 w4 w5 (nOn (nAll n - s9 - 1)) x + tr (nOr (nAll n - s9 - 1) x))) → ((0 : Int32) = 1 ∧ ∀ x, x < p + 1 → ¬ ((nI (nAll n - s9 - 1) >>> (nI x &&& 31)) &&& 1) = 0) ∨ ((0 : Int32) = 0 ∧ (∃ x, x < p + 1 ∧ ((nI (nAll n - s9 - 1) >>> (nI x &&& 31)) &&& 1) = 0 ∧ (wAt w0 w1 w2 w3 w4 w5 (nOn (nAll n - s9 - 1)) p + tr (nOr (nAll n - s9 - 1) p)) = (wAt w0 w1 w2 w3 w4 w5 (nOn (nAll n - s9 - 1)) x + tr (nOr (nAll n - s9 - 1) x))) ∧ ∀ x, x < p + 1 → ((nI (nAll n - s9 - 1) >>> (nI x &&& 31)) &&& 1) = 0 → (wAt w0 w1 w2 w3 w4 w5 (nOn (nAll n - s9 - 1)) p + tr (nOr (nAll n - s9 - 1) p)) ≤ (wAt w0 w1 w2 w3 w4 w5 (nOn (nAll n - s9 - 1)) x + tr (nOr (nAll n - s9 - 1) x))) := fun w => Or.inr ⟨rfl, ⟨p, by omega, c, rfl⟩, fun x hx cx => by
        by_cases e : x = p
        · rw [e]; exact Int32.le_iff_toInt_le.mpr (Int.le_refl _)
        · exact w x (by omega) cx⟩
      rcases hs with ⟨z0, z⟩ | ⟨z0, z1, z2⟩
      · rw [if_neg (show ¬ fi = 0 by rw [z0]; decide)]
        exact mn_run h6 hl q (p + 1) 0 _ (by omega) (new (fun x hx cx => absurd cx (z x hx)))
      · rw [if_pos z0]
        by_cases d : be ≤ (wAt w0 w1 w2 w3 w4 w5 (nOn (nAll n - s9 - 1)) p + tr (nOr (nAll n - s9 - 1) p))
        · rw [if_pos d]
          refine mn_run h6 hl q (p + 1) 0 be (by omega) (Or.inr ⟨rfl, ?_, fun x hx cx => ?_⟩)
          · obtain ⟨x, x1, x2⟩ := z1
            exact ⟨x, by omega, x2⟩
          · by_cases e : x = p
            · rw [e]; exact d
            · exact z2 x (by omega) cx
        · rw [if_neg d]
          refine mn_run h6 hl q (p + 1) 0 _ (by omega) (new (fun x hx cx => ?_))
          have a := Int32.lt_iff_toInt_lt.mp (Int32.not_le.mp d)
          have b := Int32.le_iff_toInt_le.mp (z2 x hx cx)
          exact Int32.le_iff_toInt_le.mpr (by omega)
    · rw [if_neg c]
      refine mn_run h6 hl q (p + 1) fi be (by omega) ?_
      rcases hs with ⟨z0, z⟩ | ⟨z0, z1, z2⟩
      · refine Or.inl ⟨z0, fun x hx => ?_⟩
        by_cases e : x = p
        · rw [e]; exact c
        · exact z x (by omega)
      · obtain ⟨x, x1, x2⟩ := z1
        refine Or.inr ⟨z0, ⟨x, by omega, x2⟩, fun y hy cy => ?_⟩
        by_cases e : y = p
        · rw [e] at cy; exact absurd cy c
        · exact z2 y (by omega) cy
/-- what holds of the table at a set -/
def PT (n : Nat) (F tr : Nat → Int32) (S : Nat) : Prop := (S = nAll n → tr S = 0) ∧ (S < nAll n → (∃ x, x < n ∧ ((nI S >>> (nI x &&& 31)) &&& 1) = 0 ∧ tr S = F (6 * nOn S + x) + tr (nOr S x)) ∧ ∀ x, x < n → ((nI S >>> (nI x &&& 31)) &&& 1) = 0 → tr S ≤ F (6 * nOn S + x) + tr (nOr S x)) ∧ Bd (tr S) ((6 - nOn S) * 12960)
theorem PT_up {S0 S : Nat} {x : Int32} (h6 : n ≤ 6) (hS : S0 < S) (hn : S ≤ nAll n) (h : PT n F tr S) : PT n F (upd tr S0 x) S := by
  have h63 := nAll_le h6
  obtain ⟨a, b, c⟩ := h
  have e : upd tr S0 x S = tr S := upd_n9 (by omega)
  have g : ∀ y, y < n → ((nI S >>> (nI y &&& 31)) &&& 1) = 0 → upd tr S0 x (nOr S y) = tr (nOr S y) := fun y hy cy => by
    have q := or_gt (by omega) (by omega) cy
    exact upd_n9 (by omega)
  refine ⟨fun z => by rw [e]; exact a z, fun z => ?_, by rw [e]; exact c⟩
  obtain ⟨⟨y, y1, y2, y3⟩, b2⟩ := b z
  refine ⟨⟨y, y1, y2, ?_⟩, fun y hy cy => ?_⟩
  · rw [e, g y y1 y2]; exact y3
  · rw [e, g y hy cy]; exact b2 y hy cy
theorem sol_run (h6 : n ≤ 6) (hW : ∀ k p, k < n → p < n → wAt w0 w1 w2 w3 w4 w5 k p = F (6 * k + p)) (hF : ∀ k p, k < n → p < n → Bd (F (6 * k + p)) 12960) : ∀ (q s : Nat) (tr : Nat → Int32), s + q = nAll n → (∀ S, q ≤ S → S ≤ nAll n → PT n F tr S) → ∀ S, S ≤ nAll n → PT n F (p_X4_solve_18 w0 w1 w2 w3 w4 w5 n 0 q s tr).2 S
  | 0, s, tr, hs, h, S, h1 => h S (Nat.zero_le _) h1
  | q + 1, s, tr, hs, h, S, h1 => by
    have h63 := nAll_le h6
    have eS : nAll n - s - 1 = q := by omega
    have hl : nAll n - s - 1 < nAll n := by omega
    have hon := on_lt h6 hl
    obtain ⟨m1, m2⟩ := mn_run (tr := tr) (w0 := w0) (w1 := w1) (w2 := w2) (w3 := w3) (w4 := w4) (w5 := w5) h6 hl (n - 0) 0 1 0 (by omega) (Or.inl ⟨rfl, fun x hx => absurd hx (by omega)⟩)
    rw [p_X4_solve_18, if_pos (show (0 : Int32) = 0 from rfl)]
    refine sol_run h6 hW hF q (s + 1) _ (by omega) (fun U u1 u2 => ?_) S h1
    by_cases e : U = nAll n - s - 1
    · rw [e]
      have ea : upd tr (nAll n - s - 1) (g_X4_solve_57 w0 w1 w2 w3 w4 w5 n s tr).2.2 (nAll n - s - 1) = (p_X4_solve_57 w0 w1 w2 w3 w4 w5 n s tr (n - 0) 0 1 0).2.2 := upd_a9 rfl
      have g : ∀ y, y < n → ((nI (nAll n - s - 1) >>> (nI y &&& 31)) &&& 1) = 0 → upd tr (nAll n - s - 1) (g_X4_solve_57 w0 w1 w2 w3 w4 w5 n s tr).2.2 (nOr (nAll n - s - 1) y) = tr (nOr (nAll n - s - 1) y) := fun y hy cy => by
        have q := or_gt (by omega) (by omega) cy
        exact upd_n9 (by omega)
      refine ⟨fun z => absurd z (by omega), fun _ => ⟨?_, fun y hy cy => ?_⟩, ?_⟩
      · obtain ⟨x, x1, x2, x3⟩ := m1
        refine ⟨x, x1, x2, ?_⟩
        rw [ea, g x x1 x2, ← hW (nOn (nAll n - s - 1)) x hon x1]
        exact x3
      · rw [ea, g y hy cy, ← hW (nOn (nAll n - s - 1)) y hon hy]
        exact m2 y hy cy
      · rw [ea]
        obtain ⟨x, x1, x2, x3⟩ := m1
        have gt := or_gt (by omega) (by omega) x2
        have r := (h (nOr (nAll n - s - 1) x) (by omega) (or_in h6 (Nat.le_of_lt hl) x1)).2.2
        rw [on_or (by omega) (by omega) x2] at r
        rw [x3, hW (nOn (nAll n - s - 1)) x hon x1]
        exact Bd_up (Bd_add (hF (nOn (nAll n - s - 1)) x hon x1) r (by omega)) (by omega)
    · exact PT_up h6 (by omega) u2 (h U (by omega) u2)
theorem c8_run {S : Nat} (h6 : n ≤ 6) : ∀ (q p : Nat), p + q = n → (∃ x, p ≤ x ∧ x < n ∧ ((nI S >>> (nI x &&& 31)) &&& 1) = 0 ∧ (wAt w0 w1 w2 w3 w4 w5 (nOn S) x + tr (nOr S x)) = tr S) → p ≤ p_X4_chosen_8 tr w0 w1 w2 w3 w4 w5 S q p ∧ p_X4_chosen_8 tr w0 w1 w2 w3 w4 w5 S q p < n ∧ ((nI S >>> (nI (p_X4_chosen_8 tr w0 w1 w2 w3 w4 w5 S q p) &&& 31)) &&& 1) = 0 ∧ (wAt w0 w1 w2 w3 w4 w5 (nOn S) (p_X4_chosen_8 tr w0 w1 w2 w3 w4 w5 S q p) + tr (nOr S (p_X4_chosen_8 tr w0 w1 w2 w3 w4 w5 S q p))) = tr S ∧ ∀ x, p ≤ x → x < p_X4_chosen_8 tr w0 w1 w2 w3 w4 w5 S q p → ((nI S >>> (nI x &&& 31)) &&& 1) = 0 → ¬ (wAt w0 w1 w2 w3 w4 w5 (nOn S) x + tr (nOr S x)) = tr S
  | 0, p, h, hx => by
    obtain ⟨x, x1, x2, x3⟩ := hx
    exact absurd x1 (by omega)
  | q + 1, p, h, hx => by
    have go : (¬ (((nI S >>> (nI p &&& 31)) &&& 1) = 0 ∧ (wAt w0 w1 w2 w3 w4 w5 (nOn S) p + tr (nOr S p)) = tr S)) → p_X4_chosen_8 tr w0 w1 w2 w3 w4 w5 S (q + 1) p = p_X4_chosen_8 tr w0 w1 w2 w3 w4 w5 S q (p + 1) := fun z => by
      rw [p_X4_chosen_8]
      by_cases c : ((nI S >>> (nI p &&& 31)) &&& 1) = 0
      · rw [if_pos c, if_neg (fun w => z ⟨c, w⟩)]
      · rw [if_neg c]
    by_cases y : ((nI S >>> (nI p &&& 31)) &&& 1) = 0 ∧ (wAt w0 w1 w2 w3 w4 w5 (nOn S) p + tr (nOr S p)) = tr S
    · have e : p_X4_chosen_8 tr w0 w1 w2 w3 w4 w5 S (q + 1) p = p := by rw [p_X4_chosen_8, if_pos y.1, if_pos y.2]
      rw [e]
      exact ⟨Nat.le_refl _, by omega, y.1, y.2, fun x h1 h2 => absurd h1 (by omega)⟩
    · rw [go y]
      obtain ⟨x, x1, x2, x3, x4⟩ := hx
      have ne : ¬ x = p := fun z => by
        rw [z] at x3 x4
        exact y ⟨x3, x4⟩
      obtain ⟨r1, r2, r3, r4, r5⟩ := c8_run h6 q (p + 1) (by omega) ⟨x, by omega, x2, x3, x4⟩
      refine ⟨by omega, r2, r3, r4, fun u h1 h2 cu => ?_⟩
      by_cases e : u = p
      · rw [e] at cu ⊢
        exact fun w => y ⟨cu, w⟩
      · exact r5 u (by omega) h2 cu
theorem c8_le {S : Nat} : ∀ (q p : Nat), p_X4_chosen_8 tr w0 w1 w2 w3 w4 w5 S q p ≤ p + q
  | 0, p => Nat.le_refl _
  | q + 1, p => by
    rw [p_X4_chosen_8]
    repeat' split
    all_goals first
      | exact Nat.le_add_right p (q + 1)
      | exact Nat.le_trans (c8_le q (p + 1)) (by omega)
theorem tb_of (h6 : n ≤ 6) (hW : ∀ k p, k < n → p < n → wAt w0 w1 w2 w3 w4 w5 k p = F (6 * k + p)) (hF : ∀ k p, k < n → p < n → Bd (F (6 * k + p)) 12960) (h : ∀ S, S ≤ nAll n → PT n F tr S) : TbR n F tr (fun S => p_X4_chosen_8 tr w0 w1 w2 w3 w4 w5 S (n - 0) 0) := by
  have h63 := nAll_le h6
  refine ⟨(h (nAll n) (Nat.le_refl _)).1 rfl, fun S hS => ?_, hF, fun S hS => (h S hS).2.2, fun S => by
    have := c8_le (tr := tr) (w0 := w0) (w1 := w1) (w2 := w2) (w3 := w3) (w4 := w4) (w5 := w5) (S := S) (n - 0) 0
    show p_X4_chosen_8 tr w0 w1 w2 w3 w4 w5 S (n - 0) 0 ≤ 6
    omega⟩
  have hon := on_lt h6 hS
  obtain ⟨⟨x, x1, x2, x3⟩, b⟩ := (h S (by omega)).2.1 hS
  obtain ⟨r1, r2, r3, r4, r5⟩ := c8_run (tr := tr) (w0 := w0) (w1 := w1) (w2 := w2) (w3 := w3) (w4 := w4) (w5 := w5) (S := S) h6 (n - 0) 0 (by omega) ⟨x, Nat.zero_le _, x1, x2, by rw [hW (nOn S) x hon x1]; exact x3.symm⟩
  refine ⟨r2, r3, ?_, fun p hp cp => ?_⟩
  · rw [hW (nOn S) _ hon r2] at r4
    exact r4.symm
  · have f := hF (nOn S) p hon hp
    have r := (h (nOr S p) (or_in h6 (by omega) hp)).2.2
    have e := t_add (a := F (6 * nOn S + p)) (b := tr (nOr S p)) (by have := f.1; have := f.2; have := r.1; have := r.2; omega) (by have := f.1; have := f.2; have := r.1; have := r.2; omega)
    have l := Int32.le_iff_toInt_le.mp (b p hp cp)
    rw [e] at l
    refine ⟨l, fun hlt => ?_⟩
    have ne := r5 p (Nat.zero_le _) hlt cp
    rw [hW (nOn S) p hon hp] at ne
    have ne2 : ¬ (F (6 * nOn S + p)).toInt + (tr (nOr S p)).toInt = (tr S).toInt := fun z => ne (Int32.toInt_inj.mp (by rw [e]; exact z))
    omega
theorem d7_run (h6 : n ≤ 6) (hok : TbR n F tr (fun S => p_X4_chosen_8 tr w0 w1 w2 w3 w4 w5 S (n - 0) 0)) : ∀ (q t S D : Nat), q + t = n → nOn S = t → S ≤ nAll n → (p_X4_digits_7 tr w0 w1 w2 w3 w4 w5 n q t S (nI D)).1 = n ∧ (p_X4_digits_7 tr w0 w1 w2 w3 w4 w5 n q t S (nI D)).2.2 = nI (gN (fun S => p_X4_chosen_8 tr w0 w1 w2 w3 w4 w5 S (n - 0) 0) q S D)
  | 0, t, S, D, h, ho, hS => ⟨by show t = n; omega, rfl⟩
  | q + 1, t, S, D, h, ho, hS => by
    have h63 := nAll_le h6
    have hl : S < nAll n := by
      rcases Nat.lt_or_ge S (nAll n) with z | z
      · exact z
      · have e9 : S = nAll n := by omega
        have o9 := on_all h6
        rw [e9] at ho
        omega
    obtain ⟨c1, c2, c3, c4⟩ := hok.2.1 S hl
    have c1 : p_X4_chosen_8 tr w0 w1 w2 w3 w4 w5 S (n - 0) 0 < n := c1
    have c2 : ((nI S >>> (nI (p_X4_chosen_8 tr w0 w1 w2 w3 w4 w5 S (n - 0) 0) &&& 31)) &&& 1) = 0 := c2
    have ec : m_X4_chosen tr w0 w1 w2 w3 w4 w5 S n = nI (p_X4_chosen_8 tr w0 w1 w2 w3 w4 w5 S (n - 0) 0) := by
      unfold m_X4_chosen g_X4_chosen_8
      rw [if_neg (show ¬ nI n ≤ nI (p_X4_chosen_8 tr w0 w1 w2 w3 w4 w5 S (n - 0) 0) from fun z => absurd (nI_le1 (by omega) (by omega) z) (by omega))]
    have ed : 10 * nI D + nI (p_X4_chosen_8 tr w0 w1 w2 w3 w4 w5 S (n - 0) 0) + 1 = nI (10 * D + (p_X4_chosen_8 tr w0 w1 w2 w3 w4 w5 S (n - 0) 0 + 1)) := by
      have e1 : 10 * nI D = nI (10 * D) := (Int32.ofNat_mul 10 D).symm
      rw [e1, nI_add]
      exact nI_add (10 * D + p_X4_chosen_8 tr w0 w1 w2 w3 w4 w5 S (n - 0) 0) 1
    rw [p_X4_digits_7, ec, if_pos (nI_pos' (by omega)), nC_nI (by omega), ed]
    exact d7_run h6 hok q (t + 1) (nOr S (p_X4_chosen_8 tr w0 w1 w2 w3 w4 w5 S (n - 0) 0)) (10 * D + (p_X4_chosen_8 tr w0 w1 w2 w3 w4 w5 S (n - 0) 0 + 1)) (by omega) (by rw [on_or (by omega) (by omega) c2, ho]) (or_in h6 hS c1)
end O4
section O5
variable {fct : Nat → Int32} {fet : Nat → Nat} {Fcd : Nat → Int32} {Fsr : Nat → Nat} {ru jn pn pb jg nn : Nat} {fso fmi fpa fki fmo fsz frd Fro Fkd Fmo Fst ffa fga ftr w0 w1 w2 w3 w4 w5 : Nat → Int32} {v0 v1 v2 s39 s40 : Int32}
theorem dig_0 {tr : Nat → Int32} : m_X4_digits tr w0 w1 w2 w3 w4 w5 0 = -1 := by
  unfold m_X4_digits
  rw [if_pos (show nI 0 = 0 from rfl), ite_self]
theorem sol_0 {g : Int32} : m_X4_solve_tr ftr w0 w1 w2 w3 w4 w5 0 g 0 = 0 := by
  show upd ftr (nAll 0) 0 0 = 0
  exact upd_a9 rfl
theorem mile_bd (hw : mWx fct fet) (hT : TxR fct fet Fcd Fsr ru) (hJ : CtJ fso fmi fpa Fro) (hP : CtP pb fki fmo fsz frd Fkd Fmo Fst) (rJ : RgJ fso fpa) (rP : RgP pb fmo fsz) (hj : jn < 4) (hq : pn < pb) : Bd (m_X6_mile ru Fst Fro Fmo Fkd Fcd Fsr jn pn) 216 := by
  have hr := hurt_rng (fki := fki) (v := m_X0_says 0 jn pn fso fmi fmo fsz frd fct fet) (by rw [says_eq hw hT (by decide) hJ hP hj hq]; exact asks_rng0) rJ rP hj hq
  rw [hurt_eq hw hT hJ hP hj hq] at hr
  have r2 := i_rng (n := 216) (by omega) hr
  unfold m_X6_mile
  split
  · exact r2
  · exact Bd_0
theorem go_bd (hw : mWx fct fet) (hT : TxR fct fet Fcd Fsr ru) (hj : jn < 4) (hq : pn < pb) : ∀ (q i m : Nat) (fe : Int32) (a b c d ro st : Nat → Int32), m + 216 * q ≤ 100000 → Bd fe m → CtJ a b c ro → CtP pb fki fmo d frd Fkd Fmo st → RgJ a c → RgP pb fmo d → Bd (p_X0_go_6 jn pn fki fmo frd fct fet q i fe a b c d).2.1 (m + 216 * q)
  | 0, i, m, fe, a, b, c, d, ro, st, h, hb, hJ, hP, rJ, rP => hb
  | q + 1, i, m, fe, a, b, c, d, ro, st, h, hb, hJ, hP, rJ, rP => by
    have mb := mile_bd hw hT hJ hP rJ rP hj hq
    obtain ⟨x1, x2⟩ := mile_J hw hT hJ hP rJ rP hj hq
    obtain ⟨y1, y2⟩ := mile_P (v := 0) ⟨by decide, by decide⟩ hw hT hJ hP rP hj hq
    rw [p_X0_go_6, mile_eq hw hT hJ hP hj hq]
    exact Bd_up (go_bd hw hT hj hq q (i + 1) (m + 216) _ _ _ _ _ _ _ (by omega) (Bd_add hb mb (by omega)) x1 y1 x2 y2) (by omega)
theorem F_bd (hw : mWx fct fet) (hT : TxR fct fet Fcd Fsr ru) (hJ : CtJ fso fmi fpa Fro) (hP : CtP pb fki fmo fsz frd Fkd Fmo Fst) (rJ : RgJ fso fpa) (rP : RgP pb fmo fsz) (hj : jn < 4) (hpb : pb ≤ 6) (hn : nn ≤ 60) (k p : Nat) (hk : k < pb) (hp : p < pb) : Bd (m_X6_tellsPlaces_fa pb ru Fst Fro Fmo Fkd Fcd Fsr ffa fga jn nn (6 * k + p)) 12960 ∧ Bd (m_X6_tellsPlaces_ga pb ru Fst Fro Fmo Fkd Fcd Fsr ffa fga jn nn (6 * k + p)) 12960 := by
  refine ⟨?_, Bd_up (Bd_1 (ga_01 hw hT hJ hP rJ rP hj hpb k p hk hp)) (by omega)⟩
  have a := wE (ffa := ffa) (fga := fga) (nn := nn) hw hT hJ hP rJ rP hj hpb k p hk hp
  obtain ⟨ro, b1, b2, b3⟩ := a
  rw [b3]
  exact Bd_up (go_bd hw hT hj hp (nn - 0) 0 0 0 _ _ _ _ _ _ (by omega) Bd_0 b1 hP b2 rP) (by omega)
theorem order_res (hw : mWx fct fet) (hT : TxR fct fet Fcd Fsr ru) (hJ : CtJ fso fmi fpa Fro) (hP : CtP pb fki fmo fsz frd Fkd Fmo Fst) (rJ : RgJ fso fpa) (rP : RgP pb fmo fsz) (hjg : jg ≤ 4) (hpb : pb ≤ 6) : m_X5_order jg pb fet fso fmi fpa fki fmo fsz frd fct ftr w0 w1 w2 w3 w4 w5 v0 v1 v2 = m_X6_order pb jg ru s39 s40 Fst Fro Fmo Fkd Fcd Fsr ffa fga v0 v1 v2 := by
  unfold m_X5_order m_X6_order
  by_cases a : mHas jg v0 = true
  case neg => rw [if_neg a, if_neg a]
  have hj := mHas_lt (by omega) a
  have hj4 : nC v0 < 4 := by omega
  rw [if_pos a, if_pos a]
  by_cases b : 0 ≤ v1 ∧ v1 ≤ 60
  case neg => rw [if_neg b, if_neg b]
  have hn60 := nC_le (n := 60) (by omega) b
  rw [if_pos b, if_pos b]
  rcases pair_c (v := v2) with ⟨p1, p2⟩ | ⟨⟨p1, p2, p3⟩, p4⟩
  · rw [if_pos p1]
    by_cases d : 0 ≤ v2 ∧ v2 ≤ 11
    · rw [if_pos d, if_neg (fun z => p2 ⟨d, z⟩)]
    · rw [if_neg d]
  rw [if_neg p1, if_pos p2, if_pos p3]
  by_cases z : pb = 0
  · subst z
    rw [if_pos (show nI 0 = 0 from rfl)]
    rcases p4 with e | e | e | e <;> subst e
    · rw [if_neg (show ¬ (0 : Int32) / 10 = 1 by decide), if_pos (show iRem 0 10 = 0 by decide), if_pos (show nI (nC 0 % 10) = 0 by decide), dig_0]; rfl
    · rw [if_neg (show ¬ (1 : Int32) / 10 = 1 by decide), if_neg (show ¬ iRem 1 10 = 0 by decide), if_neg (show ¬ nI (nC 1 % 10) = 0 by decide), sol_0]; rfl
    · rw [if_pos (show (10 : Int32) / 10 = 1 by decide), if_pos (show iRem 10 10 = 0 by decide), if_pos (show nI (nC 10 % 10) = 0 by decide), dig_0]; rfl
    · rw [if_pos (show (11 : Int32) / 10 = 1 by decide), if_neg (show ¬ iRem 11 10 = 0 by decide), if_neg (show ¬ nI (nC 11 % 10) = 0 by decide), sol_0]; rfl
  have h1 : 1 ≤ pb := by omega
  have z9 : ¬ nI pb = 0 := fun w => z (nI_eq1 (a := pb) (b := 0) (by omega) (by omega) w)
  rw [if_neg z9]
  have main : ∀ (g : Int32) (F : Nat → Int32), (∀ i, F i = if (nI ((nC v2) / 10)) = 0 then (m_X6_tellsPlaces_fa pb ru Fst Fro Fmo Fkd Fcd Fsr ffa fga (nC v0) (nC v1)) i else (m_X6_tellsPlaces_ga pb ru Fst Fro Fmo Fkd Fcd Fsr ffa fga (nC v0) (nC v1)) i) → (∀ i, (if g = 0 then (m_X6_tellsPlaces_fa pb ru Fst Fro Fmo Fkd Fcd Fsr ffa fga (nC v0) (nC v1)) i else (m_X6_tellsPlaces_ga pb ru Fst Fro Fmo Fkd Fcd Fsr ffa fga (nC v0) (nC v1)) i) = F i) → (m_X4_digits (m_X4_solve_tr ftr (m_X5_weighCases_w0 pb fet fso fmi fpa fki fmo fsz frd fct w0 w1 w2 w3 w4 w5 (nC v0) (nC v1) g) (m_X5_weighCases_w1 pb fet fso fmi fpa fki fmo fsz frd fct w0 w1 w2 w3 w4 w5 (nC v0) (nC v1) g) (m_X5_weighCases_w2 pb fet fso fmi fpa fki fmo fsz frd fct w0 w1 w2 w3 w4 w5 (nC v0) (nC v1) g) (m_X5_weighCases_w3 pb fet fso fmi fpa fki fmo fsz frd fct w0 w1 w2 w3 w4 w5 (nC v0) (nC v1) g) (m_X5_weighCases_w4 pb fet fso fmi fpa fki fmo fsz frd fct w0 w1 w2 w3 w4 w5 (nC v0) (nC v1) g) (m_X5_weighCases_w5 pb fet fso fmi fpa fki fmo fsz frd fct w0 w1 w2 w3 w4 w5 (nC v0) (nC v1) g) pb 0) (m_X5_weighCases_w0 pb fet fso fmi fpa fki fmo fsz frd fct w0 w1 w2 w3 w4 w5 (nC v0) (nC v1) g) (m_X5_weighCases_w1 pb fet fso fmi fpa fki fmo fsz frd fct w0 w1 w2 w3 w4 w5 (nC v0) (nC v1) g) (m_X5_weighCases_w2 pb fet fso fmi fpa fki fmo fsz frd fct w0 w1 w2 w3 w4 w5 (nC v0) (nC v1) g) (m_X5_weighCases_w3 pb fet fso fmi fpa fki fmo fsz frd fct w0 w1 w2 w3 w4 w5 (nC v0) (nC v1) g) (m_X5_weighCases_w4 pb fet fso fmi fpa fki fmo fsz frd fct w0 w1 w2 w3 w4 w5 (nC v0) (nC v1) g) (m_X5_weighCases_w5 pb fet fso fmi fpa fki fmo fsz frd fct w0 w1 w2 w3 w4 w5 (nC v0) (nC v1) g) pb = (g_X6_order_95 pb ru s39 s40 Fst Fro Fmo Fkd Fcd Fsr ffa fga v0 v1 v2).2.1 ∧ m_X4_solve_tr ftr (m_X5_weighCases_w0 pb fet fso fmi fpa fki fmo fsz frd fct w0 w1 w2 w3 w4 w5 (nC v0) (nC v1) g) (m_X5_weighCases_w1 pb fet fso fmi fpa fki fmo fsz frd fct w0 w1 w2 w3 w4 w5 (nC v0) (nC v1) g) (m_X5_weighCases_w2 pb fet fso fmi fpa fki fmo fsz frd fct w0 w1 w2 w3 w4 w5 (nC v0) (nC v1) g) (m_X5_weighCases_w3 pb fet fso fmi fpa fki fmo fsz frd fct w0 w1 w2 w3 w4 w5 (nC v0) (nC v1) g) (m_X5_weighCases_w4 pb fet fso fmi fpa fki fmo fsz frd fct w0 w1 w2 w3 w4 w5 (nC v0) (nC v1) g) (m_X5_weighCases_w5 pb fet fso fmi fpa fki fmo fsz frd fct w0 w1 w2 w3 w4 w5 (nC v0) (nC v1) g) pb 0 0 = (g_X6_order_95 pb ru s39 s40 Fst Fro Fmo Fkd Fcd Fsr ffa fga v0 v1 v2).2.2.1) := fun g F hF hg => by
    have hW : ∀ k p, k < pb → p < pb → wAt (m_X5_weighCases_w0 pb fet fso fmi fpa fki fmo fsz frd fct w0 w1 w2 w3 w4 w5 (nC v0) (nC v1) g) (m_X5_weighCases_w1 pb fet fso fmi fpa fki fmo fsz frd fct w0 w1 w2 w3 w4 w5 (nC v0) (nC v1) g) (m_X5_weighCases_w2 pb fet fso fmi fpa fki fmo fsz frd fct w0 w1 w2 w3 w4 w5 (nC v0) (nC v1) g) (m_X5_weighCases_w3 pb fet fso fmi fpa fki fmo fsz frd fct w0 w1 w2 w3 w4 w5 (nC v0) (nC v1) g) (m_X5_weighCases_w4 pb fet fso fmi fpa fki fmo fsz frd fct w0 w1 w2 w3 w4 w5 (nC v0) (nC v1) g) (m_X5_weighCases_w5 pb fet fso fmi fpa fki fmo fsz frd fct w0 w1 w2 w3 w4 w5 (nC v0) (nC v1) g) k p = F (6 * k + p) := fun k p hk hp => (weigh_eq (v2 := g) (ffa := ffa) (fga := fga) hw hT hJ hP rJ rP hj4 hpb k p hk hp).trans (hg (6 * k + p))
    have hB : ∀ k p, k < pb → p < pb → Bd (F (6 * k + p)) 12960 := fun k p hk hp => by
      have f := F_bd (ffa := ffa) (fga := fga) (nn := nC v1) hw hT hJ hP rJ rP hj4 hpb (by omega) k p hk hp
      rw [hF]
      split
      · exact f.1
      · exact f.2
    have hPT := sol_run hpb hW hB (nAll pb - 0) 0 (upd ftr (nAll pb) 0) (by omega) (fun S h1 h2 => by
      have e : S = nAll pb := by omega
      refine ⟨fun _ => upd_a9 e, fun w => absurd w (by omega), ?_⟩
      rw [upd_a9 e]; exact Bd_0)
    have tb := tb_of hpb hW hB hPT
    have k9 := blk (T := fun x => decide (dM pb pb x = nAll pb)) (V := dV pb F pb) (D := fun x => nI (dN pb pb x)) tb h1 hpb (fun _ => rfl) (fun _ => rfl) (fun _ => rfl) pb 0 0 (-1) 0 (by omega)
    have n0 : nOn 0 = 0 := by decide +kernel
    rw [if_pos (show nOn (dM pb 0 0) = 0 ∧ ((-1 : Int32) = -1 ∨ dV pb F 0 0 + (p_X4_solve_18 (m_X5_weighCases_w0 pb fet fso fmi fpa fki fmo fsz frd fct w0 w1 w2 w3 w4 w5 (nC v0) (nC v1) g) (m_X5_weighCases_w1 pb fet fso fmi fpa fki fmo fsz frd fct w0 w1 w2 w3 w4 w5 (nC v0) (nC v1) g) (m_X5_weighCases_w2 pb fet fso fmi fpa fki fmo fsz frd fct w0 w1 w2 w3 w4 w5 (nC v0) (nC v1) g) (m_X5_weighCases_w3 pb fet fso fmi fpa fki fmo fsz frd fct w0 w1 w2 w3 w4 w5 (nC v0) (nC v1) g) (m_X5_weighCases_w4 pb fet fso fmi fpa fki fmo fsz frd fct w0 w1 w2 w3 w4 w5 (nC v0) (nC v1) g) (m_X5_weighCases_w5 pb fet fso fmi fpa fki fmo fsz frd fct w0 w1 w2 w3 w4 w5 (nC v0) (nC v1) g) pb 0 (nAll pb - 0) 0 (upd ftr (nAll pb) 0)).2 (dM pb 0 0) < 0) from ⟨n0, Or.inl rfl⟩), Nat.zero_mul] at k9
    have cnt : (g_X6_order_62 pb).2 - 0 = pb ^ pb := by
      unfold g_X6_order_62
      rw [o62_run, Nat.one_mul, Nat.sub_zero, Nat.sub_zero]
    obtain ⟨q1, q2⟩ := o95_run (v2 := v2) (T := fun x => decide (dM pb pb x = nAll pb)) (V := dV pb F pb) (D := fun x => nI (dN pb pb x)) (fun x => (te_all h1 hpb hF x).1) (fun x => (te_all h1 hpb hF x).2.1) (fun x => (te_all h1 hpb hF x).2.2) (pb ^ pb) 0 (-1) 0 s39 s40
    unfold g_X6_order_95
    rw [cnt, q1, q2, k9]
    obtain ⟨d1, d2⟩ := d7_run hpb tb (pb - 0) 0 0 0 (by omega) n0 (Nat.zero_le _)
    constructor
    · unfold m_X4_digits m_X4_solve_tr g_X4_solve_18 g_X4_digits_7
      refine Eq.trans (if_pos ?_) ((if_neg z9).trans ?_)
      · refine Int32.le_iff_toInt_le.mpr (Int.le_of_eq (congrArg Int32.toInt (congrArg nI d1.symm)))
      · exact d2
    · show _ = dV pb F 0 0 + (p_X4_solve_18 (m_X5_weighCases_w0 pb fet fso fmi fpa fki fmo fsz frd fct w0 w1 w2 w3 w4 w5 (nC v0) (nC v1) g) (m_X5_weighCases_w1 pb fet fso fmi fpa fki fmo fsz frd fct w0 w1 w2 w3 w4 w5 (nC v0) (nC v1) g) (m_X5_weighCases_w2 pb fet fso fmi fpa fki fmo fsz frd fct w0 w1 w2 w3 w4 w5 (nC v0) (nC v1) g) (m_X5_weighCases_w3 pb fet fso fmi fpa fki fmo fsz frd fct w0 w1 w2 w3 w4 w5 (nC v0) (nC v1) g) (m_X5_weighCases_w4 pb fet fso fmi fpa fki fmo fsz frd fct w0 w1 w2 w3 w4 w5 (nC v0) (nC v1) g) (m_X5_weighCases_w5 pb fet fso fmi fpa fki fmo fsz frd fct w0 w1 w2 w3 w4 w5 (nC v0) (nC v1) g) pb 0 (nAll pb - 0) 0 (upd ftr (nAll pb) 0)).2 0
      exact (Int32.zero_add _).symm
  rcases p4 with e | e | e | e <;> subst e
  · obtain ⟨m1, m2⟩ := main 0 (m_X6_tellsPlaces_fa pb ru Fst Fro Fmo Fkd Fcd Fsr ffa fga (nC v0) (nC v1)) (fun i => (if_pos (by decide)).symm) (fun i => if_pos rfl)
    rw [if_neg (show ¬ (0 : Int32) / 10 = 1 by decide), if_pos (show iRem 0 10 = 0 by decide), if_pos (show nI (nC 0 % 10) = 0 by decide)]
    exact m1
  · obtain ⟨m1, m2⟩ := main 0 (m_X6_tellsPlaces_fa pb ru Fst Fro Fmo Fkd Fcd Fsr ffa fga (nC v0) (nC v1)) (fun i => (if_pos (by decide)).symm) (fun i => if_pos rfl)
    rw [if_neg (show ¬ (1 : Int32) / 10 = 1 by decide), if_neg (show ¬ iRem 1 10 = 0 by decide), if_neg (show ¬ nI (nC 1 % 10) = 0 by decide)]
    exact m2
  · obtain ⟨m1, m2⟩ := main 1 (m_X6_tellsPlaces_ga pb ru Fst Fro Fmo Fkd Fcd Fsr ffa fga (nC v0) (nC v1)) (fun i => (if_neg (by decide)).symm) (fun i => if_neg (by decide))
    rw [if_pos (show (10 : Int32) / 10 = 1 by decide), if_pos (show iRem 10 10 = 0 by decide), if_pos (show nI (nC 10 % 10) = 0 by decide)]
    exact m1
  · obtain ⟨m1, m2⟩ := main 1 (m_X6_tellsPlaces_ga pb ru Fst Fro Fmo Fkd Fcd Fsr ffa fga (nC v0) (nC v1)) (fun i => (if_neg (by decide)).symm) (fun i => if_neg (by decide))
    rw [if_pos (show (11 : Int32) / 10 = 1 by decide), if_neg (show ¬ iRem 11 10 = 0 by decide), if_neg (show ¬ nI (nC 11 % 10) = 0 by decide)]
    exact m2
end O5
