/-! what both sides hold alike at every turn: the numbers of judges and pebbles, the image's, the sheets (a film's third number: 0 or 1 on both) -/
def bitP (x : Int32) : Prop := x = 0 ∨ x = 1
def cR (wk : Prop) (a b : Int32) : Prop := a = b ∨ (wk ∧ bitP a ∧ bitP b)
def RowR (wk : Prop) (fn : Nat → Option Nat) (Fce : Nat → Int32) (r : Nat) (f : Nat → Int32) : Prop := ∀ s, s < 4 → fn s = some r → ∀ i, i < 40 → cR wk (f i) (Fce (40 * s + i))
def RNP (jg pb kj kb : Nat) (him : Int32) (Npb Njg : Nat) (Zhi : Int32) (Fih : Nat → Int32) : Prop := jg = Njg ∧ pb = Npb ∧ him = Zhi ∧ (him = 0 ∨ (Fih 0 = nI kb ∧ Fih 1 = nI kj))
def RSP (fqo : Nat → Int32) (fql : Nat → Nat) (Fss : Nat → Int32) (Fsq : Nat → Nat) : Prop := ∀ s, s < 4 → fqo s = Fss s ∧ fql s = Fsq s
theorem bit_in {x n : Int32} (h : bitP x) (hn : (1 : Int32) ≤ n) : 0 ≤ x ∧ x ≤ n := by
  rcases h with e | e
  · subst e; exact ⟨by decide, Int32.le_trans (by decide) hn⟩
  · subst e; exact ⟨by decide, hn⟩
theorem cR_in {wk : Prop} {a b n : Int32} (h : cR wk a b) (hn : (1 : Int32) ≤ n) : (0 ≤ a ∧ a ≤ n) ↔ (0 ≤ b ∧ b ≤ n) := by
  rcases h with e | ⟨-, p, q⟩
  · subst e; exact Iff.rfl
  · exact ⟨fun _ => bit_in q hn, fun _ => bit_in p hn⟩
theorem jg_res {jg : Nat} {v : Int32} (h : jg ≤ 4) : m_X5_judge jg v = m_X6_judge jg v := by
  unfold m_X5_judge m_X6_judge m_X0_addJudge
  by_cases c : 0 ≤ v ∧ v ≤ 20
  · rw [if_pos c, if_pos c]
    by_cases d : jg = 4
    · rw [if_neg (show ¬ nI jg < 4 from fun z => absurd (nI_lt1 (a := jg) (b := 4) (by omega) (by omega) z) (by omega)), if_pos (show nI jg = 4 by rw [d]; rfl)]
    · rw [if_pos (show nI jg < 4 from nI_lt (a := jg) (b := 4) (by omega) (by omega)), if_neg (show ¬ nI jg = 4 from fun z => d (nI_eq1 (a := jg) (b := 4) (by omega) (by omega) z)), Nat.add_sub_cancel]
  · rw [if_neg c, if_neg c]
theorem jg_num {jg : Nat} {v : Int32} (h : jg ≤ 4) : m_X5_judge_nw9 jg v = m_X6_judge_h04 jg v := by
  unfold m_X5_judge_nw9 m_X6_judge_h04 m_X0_addJudge_h09
  by_cases c : 0 ≤ v ∧ v ≤ 20
  · rw [if_pos c, if_pos c]
    by_cases d : jg = 4
    · rw [if_neg (show ¬ nI jg < 4 from fun z => absurd (nI_lt1 (a := jg) (b := 4) (by omega) (by omega) z) (by omega)), if_pos (show nI jg = 4 by rw [d]; rfl)]
    · rw [if_pos (show nI jg < 4 from nI_lt (a := jg) (b := 4) (by omega) (by omega)), if_neg (show ¬ nI jg = 4 from fun z => d (nI_eq1 (a := jg) (b := 4) (by omega) (by omega) z))]
  · rw [if_neg c, if_neg c]
theorem pb_res {wk : Prop} {pb : Nat} {a b a' b' : Int32} (h : pb ≤ 6) (h1 : cR wk a a') (h2 : cR wk b b') : m_X5_pebble pb a b = m_X6_pebble pb a' b' := by
  unfold m_X5_pebble m_X6_pebble m_X0_addPebble
  have i1 := cR_in (n := 59) h1 (by decide)
  have i2 := cR_in (n := 9999) h2 (by decide)
  by_cases c : 0 ≤ a ∧ a ≤ 59
  · rw [if_pos c, if_pos (i1.mp c)]
    by_cases c2 : 0 ≤ b ∧ b ≤ 9999
    · rw [if_pos c2, if_pos (i2.mp c2)]
      by_cases d : pb = 6
      · rw [if_neg (show ¬ nI pb < 6 from fun z => absurd (nI_lt1 (a := pb) (b := 6) (by omega) (by omega) z) (by omega)), if_pos (show nI pb = 6 by rw [d]; rfl)]
      · rw [if_pos (show nI pb < 6 from nI_lt (a := pb) (b := 6) (by omega) (by omega)), if_neg (show ¬ nI pb = 6 from fun z => d (nI_eq1 (a := pb) (b := 6) (by omega) (by omega) z)), Nat.add_sub_cancel]
    · rw [if_neg c2, if_neg (fun z => c2 (i2.mpr z))]
  · rw [if_neg c, if_neg (fun z => c (i1.mpr z))]
theorem pb_num {wk : Prop} {pb : Nat} {a b a' b' : Int32} (h : pb ≤ 6) (h1 : cR wk a a') (h2 : cR wk b b') : m_X5_pebble_nw10 pb a b = m_X6_pebble_h00 pb a' b' := by
  unfold m_X5_pebble_nw10 m_X6_pebble_h00 m_X0_addPebble_h010
  have i1 := cR_in (n := 59) h1 (by decide)
  have i2 := cR_in (n := 9999) h2 (by decide)
  by_cases c : 0 ≤ a ∧ a ≤ 59
  · rw [if_pos c, if_pos (i1.mp c)]
    by_cases c2 : 0 ≤ b ∧ b ≤ 9999
    · rw [if_pos c2, if_pos (i2.mp c2)]
      by_cases d : pb = 6
      · rw [if_neg (show ¬ nI pb < 6 from fun z => absurd (nI_lt1 (a := pb) (b := 6) (by omega) (by omega) z) (by omega)), if_pos (show nI pb = 6 by rw [d]; rfl)]
      · rw [if_pos (show nI pb < 6 from nI_lt (a := pb) (b := 6) (by omega) (by omega)), if_neg (show ¬ nI pb = 6 from fun z => d (nI_eq1 (a := pb) (b := 6) (by omega) (by omega) z))]
    · rw [if_neg c2, if_neg (fun z => c2 (i2.mpr z))]
  · rw [if_neg c, if_neg (fun z => c (i1.mpr z))]
theorem v3_no {x : Int32} : ¬ 0 ≤ x → x < 0 := fun h => Int32.not_le.mp h
theorem pb_cond {v : Int32} {len k : Nat} (hlen : len ≤ 40) (hk : k ≤ 6) (h0 : 0 ≤ v ∨ k = 0) : (mHolds len (v + nI (2 * k)) 2 = true ∧ ¬ v < 0 ∧ ¬ v + nI (2 * k) < nI (nC v) ∧ v + nI (2 * k) ≤ nI len - 2 ∧ v + nI (2 * k) = nI (nC v + 2 * k) ∧ nC v + 2 * k + 2 ≤ len) ∨ (mHolds len (v + nI (2 * k)) 2 = false ∧ (v < 0 ∨ v + nI (2 * k) < nI (nC v) ∨ ¬ v + nI (2 * k) ≤ nI len - 2)) := by
  by_cases hn : v < 0
  · have hk0 : k = 0 := h0.resolve_left (Int32.not_le.mpr hn)
    subst hk0
    have e : v + nI (2 * 0) = v := Int32.add_zero v
    rw [e]
    exact Or.inr ⟨decide_eq_false (fun z => absurd z.2.1 (Int32.not_le.mpr hn)), Or.inl hn⟩
  · have hp : 0 ≤ v := Int32.not_lt.mp hn
    have hc := nC_31 v
    have e : v = nI (nC v) := nC_eq hp
    generalize nC v = c at *
    subst e
    have hs : nI c + nI (2 * k) = nI (c + 2 * k) := nI_add c (2 * k)
    have hl2 : (nI len - 2).toInt = (len : Int) - (2 : Nat) := pk_sub_toInt (a := len) (b := 2) (by omega) (by omega)
    by_cases ov : c + 2 * k < 2 ^ 31
    · have ht : (nI (c + 2 * k)).toInt = ((c + 2 * k : Nat) : Int) := nI_toInt ov
      rw [hs]
      by_cases hl : c + 2 * k + 2 ≤ len
      · have hle : nI (c + 2 * k) ≤ nI len - 2 := Int32.le_iff_toInt_le.mpr (by rw [ht, hl2]; omega)
        exact Or.inl ⟨decide_eq_true ⟨by decide, nI_pos' ov, hle⟩, hn, fun z => absurd (nI_lt1 ov hc z) (by omega), hle, rfl, hl⟩
      · have hle : ¬ nI (c + 2 * k) ≤ nI len - 2 := fun z => by
          have z := Int32.le_iff_toInt_le.mp z
          rw [ht, hl2] at z
          omega
        exact Or.inr ⟨decide_eq_false (fun z => hle z.2.2), Or.inr (Or.inr hle)⟩
    · have ht : (nI c + nI (2 * k)).toInt = ((c + 2 * k : Nat) : Int) - 4294967296 := by
        rw [Int32.toInt_add, nI_toInt hc, nI_toInt (show 2 * k < 2 ^ 31 by omega)]
        unfold Int.bmod
        dsimp only
        split <;> omega
      have hlt : nI c + nI (2 * k) < nI c := Int32.lt_iff_toInt_lt.mpr (by rw [ht, nI_toInt hc]; omega)
      refine Or.inr ⟨decide_eq_false (fun z => ?_), Or.inr (Or.inl hlt)⟩
      have z := Int32.le_iff_toInt_le.mp z.2.1
      rw [ht] at z
      have z0 : ((0 : Int32).toInt) = 0 := rfl
      omega
theorem pb_loop {wk : Prop} {fql : Nat → Nat} {frr : Nat → Int32} {sn : Nat} {v : Int32} {fsq : Nat → Nat} {fce : Nat → Int32} (hsn : sn < 4) (hl : fql sn = fsq sn) (hlen : fql sn ≤ 40) (hR : ∀ i, i < 40 → cR wk (frr i) (fce (40 * sn + i))) : ∀ (q k cm : Nat) (a b c d a' b' c' : Nat → Int32) (pb : Nat), pb ≤ 6 → k + q ≤ 6 → (0 ≤ v ∨ k = 0) → (p_X5_pebblesBy_A_70 fql frr sn v q k cm a b c d pb).1 = (p_X6_pebblesBy_64 fsq fce (nI sn) v q k (nI cm) a' b' c' pb).1 ∧ nI (p_X5_pebblesBy_A_70 fql frr sn v q k cm a b c d pb).2.1 = (p_X6_pebblesBy_64 fsq fce (nI sn) v q k (nI cm) a' b' c' pb).2.1 ∧ (p_X5_pebblesBy_A_70 fql frr sn v q k cm a b c d pb).2.2.2.2.2.2 = (p_X6_pebblesBy_64 fsq fce (nI sn) v q k (nI cm) a' b' c' pb).2.2.2.2.2
  | 0, k, cm, a, b, c, d, a', b', c', pb, h1, h2, h3 => ⟨rfl, rfl, rfl⟩
  | q + 1, k, cm, a, b, c, d, a', b', c', pb, h1, h2, h3 => by
    have e0 : nC (nI sn) = sn := nC_nI (by omega)
    rw [p_X5_pebblesBy_A_70, p_X6_pebblesBy_64, e0, ← hl]
    rcases pb_cond (v := v) (k := k) hlen (by omega) h3 with ⟨c1, c2, c3, c4, c5, c6⟩ | ⟨c1, c2⟩
    · have e1 : nC (v + nI (2 * k)) = nC v + 2 * k := by rw [c5]; exact nC_nI (by omega)
      rw [if_pos c1, if_neg c2, if_neg c3, if_pos c4, e1]
      have r1 := hR (nC v + 2 * k) (by omega)
      have r2 := hR (nC v + 2 * k + 1) (by omega)
      have hp := pb_res h1 r1 r2
      have hq := pb_num h1 r1 r2
      have hq6 : m_X6_pebble_h00 pb (fce (40 * sn + (nC v + 2 * k))) (fce (40 * sn + (nC v + 2 * k + 1))) ≤ 6 := X6_pebble_le h1
      have g1 : 40 * sn + (nC v + 2 * k) + 1 = 40 * sn + (nC v + 2 * k + 1) := rfl
      rw [g1]
      by_cases c7 : m_X5_pebble pb (frr (nC v + 2 * k)) (frr (nC v + 2 * k + 1)) < 0
      · rw [if_pos c7, if_pos (show m_X6_pebble pb (fce (40 * sn + (nC v + 2 * k))) (fce (40 * sn + (nC v + 2 * k + 1))) < 0 by rw [← hp]; exact c7), hq, Int32.add_zero]
        exact pb_loop hsn hl hlen hR q (k + 1) cm _ _ _ _ _ _ _ _ hq6 (by omega) (Or.inl (Int32.not_lt.mp c2))
      · rw [if_neg c7, if_neg (show ¬ m_X6_pebble pb (fce (40 * sn + (nC v + 2 * k))) (fce (40 * sn + (nC v + 2 * k + 1))) < 0 by rw [← hp]; exact c7), hq, show nI cm + 1 = nI (cm + 1) from nI_add cm 1]
        exact pb_loop hsn hl hlen hR q (k + 1) (cm + 1) _ _ _ _ _ _ _ _ hq6 (by omega) (Or.inl (Int32.not_lt.mp c2))
    · rw [if_neg (show ¬ mHolds (fql sn) (v + nI (2 * k)) 2 = true by rw [c1]; decide)]
      by_cases d1 : v < 0
      · rw [if_pos d1]; exact ⟨rfl, rfl, rfl⟩
      · rw [if_neg d1]
        by_cases d2 : v + nI (2 * k) < nI (nC v)
        · rw [if_pos d2]; exact ⟨rfl, rfl, rfl⟩
        · rw [if_neg d2, if_neg ((c2.resolve_left d1).resolve_left d2)]; exact ⟨rfl, rfl, rfl⟩
section SHT
variable {wk : Prop} {fn : Nat → Option Nat} {sn r r' : Nat} {fqo Fss frr Fce : Nat → Int32} {fql Fsq : Nat → Nat} {v1 v2 v3 v4 : Int32} {pb jg : Nat}
theorem sn_in (h : sn < 4) : 0 ≤ nI sn ∧ nI sn ≤ 3 := ⟨nI_pos' (by omega), nI_le (b := 3) (by omega) (by omega)⟩
theorem pbBy_g {fki fmo fsz frd Fkd Fmo Fst : Nat → Int32} (hsn : sn < 4) (hS : RSP fqo fql Fss Fsq) (hq : ∀ q9, q9 < 4 → fql q9 ≤ 40) (hr : fn sn = some r) (hR : RowR wk fn Fce r frr) (hp : pb ≤ 6) (c3 : 0 ≤ v4 ∧ v4 ≤ 6) : (g_X5_pebblesBy_A_70 pb fql fki fmo fsz frd frr sn v3 v4).1 = (g_X6_pebblesBy_64 pb Fsq Fce Fkd Fmo Fst (nI sn) v3 v4).1 ∧ nI (g_X5_pebblesBy_A_70 pb fql fki fmo fsz frd frr sn v3 v4).2.1 = (g_X6_pebblesBy_64 pb Fsq Fce Fkd Fmo Fst (nI sn) v3 v4).2.1 ∧ (g_X5_pebblesBy_A_70 pb fql fki fmo fsz frd frr sn v3 v4).2.2.2.2.2.2 = (g_X6_pebblesBy_64 pb Fsq Fce Fkd Fmo Fst (nI sn) v3 v4).2.2.2.2.2 := by
  have h6 : nC v4 ≤ 6 := nC_le (n := 6) (by omega) c3
  exact pb_loop hsn (hS sn hsn).2 (hq sn hsn) (hR sn hsn hr) (nC v4 - 0) 0 0 _ _ _ _ _ _ _ pb hp (by omega) (Or.inr rfl)
theorem pbBy_res {fki fmo fsz frd Fkd Fmo Fst : Nat → Int32} (hsn : sn < 4) (hS : RSP fqo fql Fss Fsq) (hq : ∀ q9, q9 < 4 → fql q9 ≤ 40) (hr : fn sn = some r) (hR : RowR wk fn Fce r frr) (hp : pb ≤ 6) : m_X5_pebblesBy_A pb fql fki fmo fsz frd fqo frr sn v2 v3 v4 = m_X6_pebblesBy pb Fss Fsq Fce Fkd Fmo Fst (nI sn) v2 v3 v4 := by
  unfold m_X5_pebblesBy_A m_X6_pebblesBy
  rw [if_pos (sn_in hsn), nC_nI (show sn < 2 ^ 31 by omega), (hS sn hsn).1]
  by_cases c1 : 0 ≤ v2 ∧ v2 ≤ 2
  · rw [if_pos c1, if_pos c1]
    by_cases c2 : 0 ≤ v4 ∧ v4 ≤ 6
    · obtain ⟨g1, g2, g3⟩ := pbBy_g (fki := fki) (fmo := fmo) (fsz := fsz) (frd := frd) (Fkd := Fkd) (Fmo := Fmo) (Fst := Fst) (v3 := v3) hsn hS hq hr hR hp c2
      rw [if_pos c2, if_pos c2, g1, g2]
    · rw [if_neg c2, if_neg c2]
  · rw [if_neg c1, if_neg c1]
theorem pbBy_num {fki fmo fsz frd Fkd Fmo Fst : Nat → Int32} (hsn : sn < 4) (hS : RSP fqo fql Fss Fsq) (hq : ∀ q9, q9 < 4 → fql q9 ≤ 40) (hr : fn sn = some r) (hR : RowR wk fn Fce r frr) (hp : pb ≤ 6) : m_X5_pebblesBy_A_nw10 pb fql fki fmo fsz frd fqo frr sn v2 v3 v4 = m_X6_pebblesBy_h00 pb Fss Fsq Fce Fkd Fmo Fst (nI sn) v2 v3 v4 := by
  unfold m_X5_pebblesBy_A_nw10 m_X6_pebblesBy_h00
  rw [if_pos (sn_in hsn), nC_nI (show sn < 2 ^ 31 by omega), (hS sn hsn).1]
  by_cases c1 : 0 ≤ v2 ∧ v2 ≤ 2
  · rw [if_pos c1, if_pos c1]
    by_cases c2 : 0 ≤ v4 ∧ v4 ≤ 6
    · obtain ⟨g1, g2, g3⟩ := pbBy_g (fki := fki) (fmo := fmo) (fsz := fsz) (frd := frd) (Fkd := Fkd) (Fmo := Fmo) (Fst := Fst) (v3 := v3) hsn hS hq hr hR hp c2
      rw [if_pos c2, if_pos c2, g3]
    · rw [if_neg c2, if_neg c2]
  · rw [if_neg c1, if_neg c1]
/-! sheet -/
theorem zr_70 {v0 : Int32} : ∀ (q i : Nat) (f : Nat → Int32) (j : Nat), (p_X6_sheet_70 v0 q i f).2 j = if 40 * nC v0 + i ≤ j ∧ j < 40 * nC v0 + i + q then 0 else f j
  | 0, i, f, j => by rw [if_neg (by omega)]; rfl
  | q + 1, i, f, j => by
    rw [p_X6_sheet_70, zr_70 q]
    by_cases c : j = 40 * nC v0 + i
    · rw [if_neg (by omega), if_pos (by omega), upd_a9 c]
    · rw [upd_n9 c]
      by_cases d : 40 * nC v0 + i ≤ j ∧ j < 40 * nC v0 + i + (q + 1)
      · rw [if_pos d, if_pos (by omega)]
      · rw [if_neg d, if_neg (by omega)]
theorem zr_70q {v0 : Int32} : ∀ (q i : Nat) (f : Nat → Int32) (j : Nat), (p_X6_sheet_70q1 v0 q i f).2 j = if 40 * nC v0 + i ≤ j ∧ j < 40 * nC v0 + i + q then 0 else f j
  | 0, i, f, j => by rw [if_neg (by omega)]; rfl
  | q + 1, i, f, j => by
    rw [p_X6_sheet_70q1, zr_70q q]
    by_cases c : j = 40 * nC v0 + i
    · rw [if_neg (by omega), if_pos (by omega), upd_a9 c]
    · rw [upd_n9 c]
      by_cases d : 40 * nC v0 + i ≤ j ∧ j < 40 * nC v0 + i + (q + 1)
      · rw [if_pos d, if_pos (by omega)]
      · rw [if_neg d, if_neg (by omega)]
theorem zr_36 {v0 : Int32} : ∀ (q i : Nat) (f : Nat → Int32) (j : Nat), (p_X6_film_36 v0 q i f).2 j = if 40 * nC v0 + i ≤ j ∧ j < 40 * nC v0 + i + q then 0 else f j
  | 0, i, f, j => by rw [if_neg (by omega)]; rfl
  | q + 1, i, f, j => by
    rw [p_X6_film_36, zr_36 q]
    by_cases c : j = 40 * nC v0 + i
    · rw [if_neg (by omega), if_pos (by omega), upd_a9 c]
    · rw [upd_n9 c]
      by_cases d : 40 * nC v0 + i ≤ j ∧ j < 40 * nC v0 + i + (q + 1)
      · rw [if_pos d, if_pos (by omega)]
      · rw [if_neg d, if_neg (by omega)]
/-- rows and cells after a change of sheet sn -/
def Only (sn : Nat) (Fce Fce' : Nat → Int32) : Prop := ∀ j, ¬ (40 * sn ≤ j ∧ j < 40 * sn + 40) → Fce' j = Fce j
theorem row_other {Fce' : Nat → Int32} (ho : Only sn Fce Fce') (hr : fn sn = some r) (hne : r ≠ r') (h : RowR wk fn Fce r' frr) : RowR wk fn Fce' r' frr := by
  intro s hs e i hi
  have hsne : s ≠ sn := fun z => hne (by rw [z] at e; exact Option.some.inj (hr.symm.trans e))
  rw [ho (40 * s + i) (by omega)]
  exact h s hs e i hi
theorem row_one {Fce' frr' : Nat → Int32} (hi9 : ∀ s s', s < 4 → s' < 4 → fn s = some r → fn s' = some r → s = s') (hsn : sn < 4) (hr : fn sn = some r) (h : ∀ i, i < 40 → cR wk (frr' i) (Fce' (40 * sn + i))) : RowR wk fn Fce' r frr' := by
  intro s hs e i hi
  have e2 := hi9 s sn hs hsn e hr
  subst e2
  exact h i hi
theorem upd_all {f g : Nat → Int32} {k : Nat} {x y : Int32} (he : x = y) {s : Nat} (h : f s = g s) : upd f k x s = upd g k y s := by
  subst he
  by_cases c : s = k
  · rw [upd_a9 c, upd_a9 c]
  · rw [upd_n9 c, upd_n9 c]; exact h
theorem updN_all {f g : Nat → Nat} {k x y : Nat} (he : x = y) {s : Nat} (h : f s = g s) : updN f k x s = updN g k y s := by
  subst he
  by_cases c : s = k
  · rw [updN_at c, updN_at c]
  · rw [updN_lo c, updN_lo c]; exact h
theorem sheet_S (hsn : sn < 4) (hS : RSP fqo fql Fss Fsq) : RSP (m_X5_sheet_A_qo fqo sn v2 v3) (m_X5_sheet_A_ql fql sn v2 v3) (m_X6_sheet_ss Fss (nI sn) v2 v3) (m_X6_sheet_sq Fsq (nI sn) v2 v3) := by
  unfold m_X5_sheet_A_qo m_X5_sheet_A_ql m_X6_sheet_ss m_X6_sheet_sq
  rw [if_pos (sn_in hsn), if_pos (sn_in hsn), nC_nI (show sn < 2 ^ 31 by omega)]
  by_cases c1 : v2 < (-1)
  · have d : ¬ ((-1) ≤ v2 ∧ v2 ≤ 2) := fun z => absurd z.1 (Int32.not_le.mpr c1)
    rw [if_pos c1, if_pos c1, if_neg d, if_neg d]; exact hS
  · rw [if_neg c1, if_neg c1]
    by_cases c2 : v2 ≤ 2
    · have d : (-1) ≤ v2 ∧ v2 ≤ 2 := ⟨Int32.not_lt.mp c1, c2⟩
      rw [if_pos c2, if_pos c2, if_pos d, if_pos d]
      by_cases c3 : v2 = (-1)
      · rw [if_pos c3, if_pos c3, if_pos c3, if_pos c3]
        exact fun s hs => ⟨upd_all c3.symm (hS s hs).1, updN_all rfl (hS s hs).2⟩
      · rw [if_neg c3, if_neg c3, if_neg c3, if_neg c3]
        by_cases c4 : v3 ≤ 40
        · rw [if_pos c4, if_pos c4, if_pos c4, if_pos c4]
          by_cases c5 : 0 ≤ v3
          · rw [if_pos c5, if_pos c5, if_pos c5, if_pos c5]
            exact fun s hs => ⟨upd_all rfl (hS s hs).1, updN_all rfl (hS s hs).2⟩
          · rw [if_neg c5, if_neg c5, if_neg c5, if_neg c5]; exact hS
        · rw [if_neg c4, if_neg c4, if_neg c4, if_neg c4]; exact hS
    · have d : ¬ ((-1) ≤ v2 ∧ v2 ≤ 2) := fun z => c2 z.2
      rw [if_neg c2, if_neg c2, if_neg d, if_neg d]; exact hS
theorem sheet_only (hsn : sn < 4) : Only sn Fce (m_X6_sheet_ce Fce (nI sn) v2 v3) := by
  intro j hj
  have e0 : nC (nI sn) = sn := nC_nI (by omega)
  unfold m_X6_sheet_ce g_X6_sheet_70 g_X6_sheet_70q1
  repeat' split
  all_goals first
    | rfl
    | (rw [zr_70, e0, if_neg (by omega)])
    | (rw [zr_70q, e0, if_neg (by omega)])
theorem sheet_row (hsn : sn < 4) (h : ∀ i, i < 40 → cR wk (frr i) (Fce (40 * sn + i))) : ∀ i, i < 40 → cR wk (m_X5_sheet_A_rr frr v2 v3 i) (m_X6_sheet_ce Fce (nI sn) v2 v3 (40 * sn + i)) := by
  intro i hi
  have e0 : nC (nI sn) = sn := nC_nI (by omega)
  unfold m_X5_sheet_A_rr m_X6_sheet_ce g_X6_sheet_70 g_X6_sheet_70q1
  rw [if_pos (sn_in hsn)]
  by_cases c1 : v2 < (-1)
  · have d : ¬ ((-1) ≤ v2 ∧ v2 ≤ 2) := fun z => absurd z.1 (Int32.not_le.mpr c1)
    rw [if_pos c1, if_neg d]; exact h i hi
  · rw [if_neg c1]
    by_cases c2 : v2 ≤ 2
    · have d : (-1) ≤ v2 ∧ v2 ≤ 2 := ⟨Int32.not_lt.mp c1, c2⟩
      rw [if_pos c2, if_pos d]
      by_cases c3 : v2 = (-1)
      · rw [if_pos c3, if_pos c3, zr_70, e0, if_pos (by omega)]; exact Or.inl rfl
      · rw [if_neg c3, if_neg c3]
        by_cases c4 : v3 ≤ 40
        · rw [if_pos c4, if_pos c4]
          by_cases c5 : 0 ≤ v3
          · rw [if_pos c5, if_pos c5, zr_70q, e0, if_pos (by omega)]; exact Or.inl rfl
          · rw [if_neg c5, if_neg c5]; exact h i hi
        · rw [if_neg c4, if_neg c4]; exact h i hi
    · have d : ¬ ((-1) ≤ v2 ∧ v2 ≤ 2) := fun z => c2 z.2
      rw [if_neg c2, if_neg d]; exact h i hi
/-! cell -/
theorem cell_cond {len : Nat} (hl : len ≤ 40) {v : Int32} : (mHas len v = true ∧ ¬ v < 0 ∧ nI (nC v) < nI len ∧ nC v < len) ∨ (mHas len v = false ∧ (v < 0 ∨ ¬ nI (nC v) < nI len)) := by
  by_cases c : v < 0
  · exact Or.inr ⟨mHas_f1 c, Or.inl c⟩
  · by_cases d : nI len ≤ nI (nC v)
    · exact Or.inr ⟨mHas_f2 c d, Or.inr (Int32.not_lt.mpr d)⟩
    · have h := mHas_t2 c d
      exact Or.inl ⟨h, c, Int32.not_le.mp d, mHas_lt (by omega) h⟩
theorem cell_res (hsn : sn < 4) (hS : RSP fqo fql Fss Fsq) (hq : ∀ q9, q9 < 4 → fql q9 ≤ 40) : m_X5_cell_A fql fqo sn v2 = m_X6_cell Fss Fsq (nI sn) v2 := by
  unfold m_X5_cell_A m_X6_cell
  rw [if_pos (sn_in hsn), nC_nI (show sn < 2 ^ 31 by omega), (hS sn hsn).1, (hS sn hsn).2]
  by_cases c : Fss sn = (-1)
  · rw [if_pos c, if_pos c]
  · rw [if_neg c, if_neg c]
    rcases cell_cond (len := Fsq sn) (v := v2) (by rw [← (hS sn hsn).2]; exact hq sn hsn) with ⟨c1, c2, c3, c4⟩ | ⟨c1, c2⟩
    · rw [if_neg c2, if_pos c3, if_pos c1]
    · rw [if_neg (show ¬ mHas (Fsq sn) v2 = true by rw [c1]; decide)]
      by_cases d : v2 < 0
      · rw [if_pos d]
      · rw [if_neg d, if_neg (c2.resolve_left d)]
theorem cell_only (hsn : sn < 4) (hS : RSP fqo fql Fss Fsq) (hq : ∀ q9, q9 < 4 → fql q9 ≤ 40) : Only sn Fce (m_X6_cell_ce Fss Fsq Fce (nI sn) v2 v3) := by
  intro j hj
  have hl : Fsq sn ≤ 40 := by rw [← (hS sn hsn).2]; exact hq sn hsn
  unfold m_X6_cell_ce
  rw [if_pos (sn_in hsn), nC_nI (show sn < 2 ^ 31 by omega)]
  by_cases c : Fss sn = (-1)
  · rw [if_pos c]
  · rw [if_neg c]
    by_cases c1 : mHas (Fsq sn) v2 = true
    · have := mHas_lt (by omega) c1
      rw [if_pos c1]
      repeat' split
      all_goals exact upd_n9 (by omega)
    · rw [if_neg c1]
theorem cell_row (hsn : sn < 4) (hS : RSP fqo fql Fss Fsq) (hq : ∀ q9, q9 < 4 → fql q9 ≤ 40) (h : ∀ i, i < 40 → cR wk (frr i) (Fce (40 * sn + i))) : ∀ i, i < 40 → cR wk (m_X5_cell_A_rr fql fqo frr sn v2 v3 i) (m_X6_cell_ce Fss Fsq Fce (nI sn) v2 v3 (40 * sn + i)) := by
  intro i hi
  unfold m_X5_cell_A_rr m_X6_cell_ce m_X2_store_rr
  rw [if_pos (sn_in hsn), nC_nI (show sn < 2 ^ 31 by omega), (hS sn hsn).1, (hS sn hsn).2]
  have hu : ∀ x : Int32, cR wk (upd frr (nC v2) x i) (upd Fce (40 * sn + nC v2) x (40 * sn + i)) := by
    intro x
    by_cases c : i = nC v2
    · rw [upd_a9 c, upd_a9 (by omega)]; exact Or.inl rfl
    · rw [upd_n9 c, upd_n9 (by omega)]; exact h i hi
  by_cases c : Fss sn = (-1)
  · rw [if_pos c, if_pos c]; exact h i hi
  · rw [if_neg c, if_neg c]
    rcases cell_cond (len := Fsq sn) (v := v2) (by rw [← (hS sn hsn).2]; exact hq sn hsn) with ⟨c1, c2, c3, c4⟩ | ⟨c1, c2⟩
    · rw [if_neg c2, if_pos c3, if_pos c1]
      by_cases d0 : Fss sn = 0
      · rw [if_pos d0, if_pos d0]; exact hu _
      · rw [if_neg d0, if_neg d0]
        by_cases d1 : Fss sn = 1
        · rw [if_pos d1, if_pos d1]; exact hu _
        · rw [if_neg d1, if_neg d1]; exact hu _
    · rw [if_neg (show ¬ mHas (Fsq sn) v2 = true by rw [c1]; decide)]
      by_cases d : v2 < 0
      · rw [if_pos d]; exact h i hi
      · rw [if_neg d, if_neg (c2.resolve_left d)]; exact h i hi
/-! film -/
theorem b8_all : ∀ p, p < 61 → (nI p).toInt8.toInt32 = nI p := by decide +kernel
theorem st_rr {qo y : Nat → Int32} {ix : Nat} {x : Int32} : m_X2_store_rr (upd qo sn 0) y sn ix x = upd y ix x.toInt8.toInt32 := by
  unfold m_X2_store_rr
  rw [if_pos (show upd qo sn 0 sn = 0 from upd_at)]
theorem vd_bit {jn pn : Nat} {a b c d e f : Nat → Int32} {g : Nat → Nat} {x : Int32} : bitP ((m_X0_verdict jn pn a b c d e f g x).toInt8.toInt32) := by
  unfold m_X0_verdict
  by_cases c : x < (m_X0_says 2 jn pn a b c d e f g)
  · rw [if_pos c]; exact Or.inl (by decide)
  · rw [if_neg c]; exact Or.inr (by decide)
theorem w3 {y z : Nat → Int32} {o p : Nat} {a b c a' b' c' : Int32} {i : Nat} (h : cR wk (y i) (z (o + i))) (ha : cR wk a a') (hb : cR wk b b') (hc : cR wk c c') : cR wk (upd (upd (upd y (3 * p) a) (3 * p + 1) b) (3 * p + 2) c i) (upd (upd (upd z (o + 3 * p) a') (o + 3 * p + 1) b') (o + 3 * p + 2) c' (o + i)) := by
  by_cases c2 : i = 3 * p + 2
  · rw [upd_a9 c2, upd_a9 (by omega)]; exact hc
  · rw [upd_n9 c2, upd_n9 (show ¬ o + i = o + 3 * p + 2 by omega)]
    by_cases c1 : i = 3 * p + 1
    · rw [upd_a9 c1, upd_a9 (by omega)]; exact hb
    · rw [upd_n9 c1, upd_n9 (show ¬ o + i = o + 3 * p + 1 by omega)]
      by_cases c0 : i = 3 * p
      · rw [upd_a9 c0, upd_a9 (by omega)]; exact ha
      · rw [upd_n9 c0, upd_n9 (by omega)]; exact h
theorem film_rows {fet : Nat → Nat} {fki fmo frd fct Fmo Fkd Fcd : Nat → Int32} {Fsr : Nat → Nat} {ru : Nat} (hsn : sn < 4) (hv : nC v3 ≤ 60) : ∀ (q p : Nat) (m : Int32) (y a b c d : Nat → Int32) (m' : Int32) (z s o : Nat → Int32), p + q ≤ 6 → (∀ i, i < 40 → cR True (y i) (z (40 * sn + i))) → ∀ i, i < 40 → cR True ((p_X5_film_A_68 fet fki fmo frd fct fqo sn v2 v3 q p m y a b c d).2.2.1 i) ((p_X6_film_72 ru Fmo Fkd Fcd Fsr (nI sn) v2 v3 q p m' z s o).2.2.1 (40 * sn + i))
  | 0, p, m, y, a, b, c, d, m', z, s, o, h1, h2 => h2
  | q + 1, p, m, y, a, b, c, d, m', z, s, o, h1, h2 => by
    intro i hi
    rw [p_X5_film_A_68, p_X6_film_72, nC_nI (show sn < 2 ^ 31 by omega), st_rr, st_rr, st_rr, b8_all p (by omega), b8_all (nC v3) (by omega)]
    split
    · exact film_rows hsn hv q (p + 1) _ _ _ _ _ _ _ _ _ _ (by omega) (fun i hi => w3 (h2 i hi) (Or.inl rfl) (Or.inl rfl) (Or.inr ⟨trivial, vd_bit, Or.inl rfl⟩)) i hi
    · exact film_rows hsn hv q (p + 1) _ _ _ _ _ _ _ _ _ _ (by omega) (fun i hi => w3 (h2 i hi) (Or.inl rfl) (Or.inl rfl) (Or.inr ⟨trivial, vd_bit, Or.inr rfl⟩)) i hi
theorem film_out {Fmo Fkd Fcd : Nat → Int32} {Fsr : Nat → Nat} {ru : Nat} (hsn : sn < 4) : ∀ (q p : Nat) (m' : Int32) (z s o : Nat → Int32), p + q ≤ 6 → Only sn z (p_X6_film_72 ru Fmo Fkd Fcd Fsr (nI sn) v2 v3 q p m' z s o).2.2.1
  | 0, p, m', z, s, o, h1 => fun j hj => rfl
  | q + 1, p, m', z, s, o, h1 => by
    intro j hj
    rw [p_X6_film_72, nC_nI (show sn < 2 ^ 31 by omega)]
    split
    · rw [film_out hsn q (p + 1) _ _ _ _ (by omega) j hj, upd_n9 (by omega), upd_n9 (by omega), upd_n9 (by omega)]
    · rw [film_out hsn q (p + 1) _ _ _ _ (by omega) j hj, upd_n9 (by omega), upd_n9 (by omega), upd_n9 (by omega)]
theorem film_S (hsn : sn < 4) (hS : RSP fqo fql Fss Fsq) : RSP (m_X5_film_A_qo jg fqo sn v2 v3) (m_X5_film_A_ql jg pb fql sn v2 v3) (m_X6_film_ss jg Fss (nI sn) v2 v3) (m_X6_film_sq pb jg Fsq (nI sn) v2 v3) := by
  unfold m_X5_film_A_qo m_X5_film_A_ql m_X6_film_ss m_X6_film_sq
  rw [if_pos (sn_in hsn), if_pos (sn_in hsn), nC_nI (show sn < 2 ^ 31 by omega)]
  by_cases c1 : mHas jg v2 = true
  · rw [if_pos c1, if_pos c1, if_pos c1, if_pos c1]
    by_cases c2 : 0 ≤ v3 ∧ v3 ≤ 60
    · rw [if_pos c2, if_pos c2, if_pos c2, if_pos c2]
      exact fun s hs => ⟨upd_all rfl (hS s hs).1, updN_all rfl (hS s hs).2⟩
    · rw [if_neg c2, if_neg c2, if_neg c2, if_neg c2]; exact hS
  · rw [if_neg c1, if_neg c1, if_neg c1, if_neg c1]; exact hS
theorem film_only {ru : Nat} {Fst Fro Fmo Fkd Fcd : Nat → Int32} {Fsr : Nat → Nat} (hsn : sn < 4) (hp : pb ≤ 6) : Only sn Fce (m_X6_film_ce pb jg ru Fst Fro Fmo Fkd Fcd Fsr Fce (nI sn) v2 v3) := by
  intro j hj
  have e0 : nC (nI sn) = sn := nC_nI (by omega)
  unfold m_X6_film_ce g_X6_film_72 g_X6_film_36
  rw [if_pos (sn_in hsn)]
  by_cases c1 : mHas jg v2 = true
  · rw [if_pos c1]
    by_cases c2 : 0 ≤ v3 ∧ v3 ≤ 60
    · rw [if_pos c2, film_out hsn (pb - 0) 0 _ _ _ _ (by omega) j hj, zr_36, e0, if_neg (by omega)]
    · rw [if_neg c2]
  · rw [if_neg c1]
theorem film_row {ru : Nat} {fet : Nat → Nat} {fso fmi fpa fki fmo fsz frd fct Fst Fro Fmo Fkd Fcd : Nat → Int32} {Fsr : Nat → Nat} (hsn : sn < 4) (hp : pb ≤ 6) (h : ∀ i, i < 40 → cR True (frr i) (Fce (40 * sn + i))) : ∀ i, i < 40 → cR True (m_X5_film_A_rr jg pb fet fso fmi fpa fki fmo fsz frd fct fqo frr sn v2 v3 i) (m_X6_film_ce pb jg ru Fst Fro Fmo Fkd Fcd Fsr Fce (nI sn) v2 v3 (40 * sn + i)) := by
  have e0 : nC (nI sn) = sn := nC_nI (by omega)
  unfold m_X5_film_A_rr m_X6_film_ce g_X6_film_72 g_X6_film_36 g_X5_film_A_68
  rw [if_pos (sn_in hsn)]
  by_cases c1 : mHas jg v2 = true
  · rw [if_pos c1, if_pos c1]
    by_cases c2 : 0 ≤ v3 ∧ v3 ≤ 60
    · rw [if_pos c2, if_pos c2]
      refine film_rows hsn (nC_le (n := 60) (by omega) c2) (pb - 0) 0 _ _ _ _ _ _ _ _ _ _ (by omega) (fun i hi => ?_)
      rw [zr_36, e0, if_pos (by omega)]
      exact Or.inl rfl
    · rw [if_neg c2, if_neg c2]; exact h
  · rw [if_neg c1, if_neg c1]; exact h
/-! copy -/
theorem hold_iff {len : Nat} (hl : len ≤ 40) {a n : Int32} : mHolds len a n = true ↔ (0 ≤ n ∧ 0 ≤ a ∧ nC a + nC n ≤ len) := by
  unfold mHolds
  rw [decide_eq_true_eq]
  have key : 0 ≤ n → 0 ≤ a → (a ≤ nI len - n ↔ nC a + nC n ≤ len) := by
    intro hn ha
    have hcn := nC_31 n
    have hca := nC_31 a
    have en : n = nI (nC n) := nC_eq hn
    have ea : a = nI (nC a) := nC_eq ha
    generalize nC n = x at *
    generalize nC a = y at *
    subst en ea
    have h : (nI len - nI x).toInt = (len : Int) - (x : Nat) := by
      rw [Int32.toInt_sub, nI_toInt (show len < 2 ^ 31 by omega), nI_toInt hcn]
      unfold Int.bmod
      dsimp only
      split <;> omega
    constructor
    · intro z
      have z := Int32.le_iff_toInt_le.mp z
      rw [h, nI_toInt hca] at z
      omega
    · intro z
      refine Int32.le_iff_toInt_le.mpr ?_
      rw [h, nI_toInt hca]
      omega
  constructor
  · rintro ⟨h1, h2, h3⟩; exact ⟨h1, h2, (key h1 h2).mp h3⟩
  · rintro ⟨h1, h2, h3⟩; exact ⟨h1, h2, (key h1 h2).mpr h3⟩
theorem copy_cond {l1 l2 : Nat} (h1 : l1 ≤ 40) (h2 : l2 ≤ 40) {a d n : Int32} : (mHolds l1 a n = true ∧ mHolds l2 d (nI (nC n)) = true ∧ ¬ n < 0 ∧ ¬ a < 0 ∧ ¬ d < 0 ∧ ¬ nI l1 < nI (nC a) ∧ ¬ nI l2 < nI (nC d) ∧ ¬ nI (l1 - nC a) < nI (nC n) ∧ nI (nC n) ≤ nI (l2 - nC d) ∧ nC a + nC n ≤ l1 ∧ nC d + nC n ≤ l2) ∨ ((¬ mHolds l1 a n = true ∨ ¬ mHolds l2 d (nI (nC n)) = true) ∧ (n < 0 ∨ a < 0 ∨ d < 0 ∨ nI l1 < nI (nC a) ∨ nI l2 < nI (nC d) ∨ nI (l1 - nC a) < nI (nC n) ∨ ¬ nI (nC n) ≤ nI (l2 - nC d))) := by
  have hcn := nC_31 n
  have hca := nC_31 a
  have hcd := nC_31 d
  have ecn : nC (nI (nC n)) = nC n := nC_nI hcn
  by_cases hn : n < 0
  · exact Or.inr ⟨Or.inl (fun z => absurd ((hold_iff h1).mp z).1 (Int32.not_le.mpr hn)), Or.inl hn⟩
  have pn : 0 ≤ n := Int32.not_lt.mp hn
  by_cases ha : a < 0
  · exact Or.inr ⟨Or.inl (fun z => absurd ((hold_iff h1).mp z).2.1 (Int32.not_le.mpr ha)), Or.inr (Or.inl ha)⟩
  have pa : 0 ≤ a := Int32.not_lt.mp ha
  by_cases hd : d < 0
  · exact Or.inr ⟨Or.inr (fun z => absurd ((hold_iff h2).mp z).2.1 (Int32.not_le.mpr hd)), Or.inr (Or.inr (Or.inl hd))⟩
  have pd : 0 ≤ d := Int32.not_lt.mp hd
  by_cases s1 : nC a + nC n ≤ l1
  · by_cases s2 : nC d + nC n ≤ l2
    · refine Or.inl ⟨(hold_iff h1).mpr ⟨pn, pa, s1⟩, (hold_iff h2).mpr ⟨nI_pos' hcn, pd, by rw [ecn]; exact s2⟩, hn, ha, hd, fun z => absurd (nI_lt1 (by omega) hca z) (by omega), fun z => absurd (nI_lt1 (by omega) hcd z) (by omega), fun z => absurd (nI_lt1 (by omega) hcn z) (by omega), nI_le (by omega) (by omega), s1, s2⟩
    · refine Or.inr ⟨Or.inr (fun z => s2 (by have w := ((hold_iff h2).mp z).2.2; rw [ecn] at w; exact w)), ?_⟩
      by_cases t : l2 < nC d
      · exact Or.inr (Or.inr (Or.inr (Or.inr (Or.inl (nI_lt t hcd)))))
      · exact Or.inr (Or.inr (Or.inr (Or.inr (Or.inr (Or.inr (fun z => absurd (nI_le1 hcn (by omega) z) (by omega)))))))
  · refine Or.inr ⟨Or.inl (fun z => s1 ((hold_iff h1).mp z).2.2), ?_⟩
    by_cases t : l1 < nC a
    · exact Or.inr (Or.inr (Or.inr (Or.inl (nI_lt t hca))))
    · exact Or.inr (Or.inr (Or.inr (Or.inr (Or.inr (Or.inl (nI_lt (by omega) hcn))))))
theorem cp_up {v0 a v2 d n : Int32} (hle : 40 * nC v2 + nC d ≤ 40 * nC v0 + nC a) (hS : 40 * nC v0 + nC a < 2 ^ 31) {f0 : Nat → Int32} : ∀ (q k : Nat) (f : Nat → Int32), (∀ j, f j = if 40 * nC v2 + nC d ≤ j ∧ j < 40 * nC v2 + nC d + k then f0 (40 * nC v0 + nC a + (j - (40 * nC v2 + nC d))) else f0 j) → ∀ j, (p_X6_copy_147 v0 a v2 d n q k f).2 j = if 40 * nC v2 + nC d ≤ j ∧ j < 40 * nC v2 + nC d + (k + q) then f0 (40 * nC v0 + nC a + (j - (40 * nC v2 + nC d))) else f0 j
  | 0, k, f, h => h
  | q + 1, k, f, h => by
    intro j
    rw [p_X6_copy_147, if_pos (nI_le hle hS), cp_up hle hS (f0 := f0) q (k + 1)]
    · rw [show k + 1 + q = k + (q + 1) by omega]
    · intro j
      by_cases c : j = 40 * nC v2 + nC d + k
      · rw [upd_a9 c, if_pos (by omega), h, if_neg (by omega), show j - (40 * nC v2 + nC d) = k by omega]
      · rw [upd_n9 c, h]
        by_cases e : 40 * nC v2 + nC d ≤ j ∧ j < 40 * nC v2 + nC d + k
        · rw [if_pos e, if_pos (by omega)]
        · rw [if_neg e, if_neg (by omega)]
theorem cp_down {v0 a v2 d n : Int32} (hlt : 40 * nC v0 + nC a < 40 * nC v2 + nC d) (hD : 40 * nC v2 + nC d < 2 ^ 31) {f0 : Nat → Int32} : ∀ (q k : Nat) (f : Nat → Int32), k + q = nC n → (∀ j, f j = if 40 * nC v2 + nC d + q ≤ j ∧ j < 40 * nC v2 + nC d + nC n then f0 (40 * nC v0 + nC a + (j - (40 * nC v2 + nC d))) else f0 j) → ∀ j, (p_X6_copy_147 v0 a v2 d n q k f).2 j = if 40 * nC v2 + nC d ≤ j ∧ j < 40 * nC v2 + nC d + nC n then f0 (40 * nC v0 + nC a + (j - (40 * nC v2 + nC d))) else f0 j
  | 0, k, f, hk, h => h
  | q + 1, k, f, hk, h => by
    intro j
    have eq : nC n - 1 - k = q := by omega
    rw [p_X6_copy_147, if_neg (show ¬ nI (40 * nC v2 + nC d) ≤ nI (40 * nC v0 + nC a) from fun z => absurd (nI_le1 hD (by omega) z) (by omega)), eq, cp_down hlt hD (f0 := f0) q (k + 1) _ (by omega)]
    intro j
    by_cases c : j = 40 * nC v2 + nC d + q
    · rw [upd_a9 c, if_pos (by omega), h, if_neg (by omega), show j - (40 * nC v2 + nC d) = q by omega]
    · rw [upd_n9 c, h]
      by_cases e : 40 * nC v2 + nC d + (q + 1) ≤ j ∧ j < 40 * nC v2 + nC d + nC n
      · rw [if_pos e, if_pos (by omega)]
      · rw [if_neg e, if_neg (by omega)]
theorem cp_all {v0 a v2 d n : Int32} (hS : 40 * nC v0 + nC a < 2 ^ 31) (hD : 40 * nC v2 + nC d < 2 ^ 31) (f0 : Nat → Int32) (j : Nat) : (g_X6_copy_147 f0 v0 a v2 d n).2 j = if 40 * nC v2 + nC d ≤ j ∧ j < 40 * nC v2 + nC d + nC n then f0 (40 * nC v0 + nC a + (j - (40 * nC v2 + nC d))) else f0 j := by
  unfold g_X6_copy_147
  rcases Nat.lt_or_ge (40 * nC v0 + nC a) (40 * nC v2 + nC d) with h | h
  · exact cp_down h hD (nC n - 0) 0 f0 (by omega) (fun j => by rw [if_neg (by omega)]) j
  · rw [cp_up h hS (f0 := f0) (nC n - 0) 0 f0 (fun j => by rw [if_neg (by omega)]) j, show 0 + (nC n - 0) = nC n by omega]
variable {on : Nat} {fr2 : Nat → Int32}
theorem copy_res (hsn : sn < 4) (hon : on < 4) (hS : RSP fqo fql Fss Fsq) (hq : ∀ q9, q9 < 4 → fql q9 ≤ 40) : m_X5_copy_A fql fqo sn on v2 v3 v4 = m_X6_copy Fss Fsq (nI sn) v2 (nI on) v3 v4 := by
  unfold m_X5_copy_A m_X6_copy
  rw [if_pos (sn_in hsn), if_pos (sn_in hon), nC_nI (show sn < 2 ^ 31 by omega), nC_nI (show on < 2 ^ 31 by omega), (hS sn hsn).1, (hS on hon).1, ← (hS sn hsn).2, ← (hS on hon).2]
  by_cases c1 : Fss sn = (-1)
  · rw [if_pos c1, if_pos c1]
  rw [if_neg c1, if_neg c1]
  by_cases c2 : Fss on = (-1)
  · rw [if_pos c2, if_pos c2]
  rw [if_neg c2, if_neg c2]
  by_cases c3 : Fss sn = Fss on
  · rw [if_pos c3, if_pos c3]
    rcases copy_cond (a := v2) (d := v3) (n := v4) (hq sn hsn) (hq on hon) with ⟨a1, a2, b1, b2, b3, b4, b5, b6, b7, -, -⟩ | ⟨a1, b⟩
    · rw [if_pos a1, if_pos a2, if_neg b1, if_neg b2, if_neg b3, if_neg b4, if_neg b5, if_neg b6, if_pos b7]
    · have e1 : (if mHolds (fql sn) v2 v4 = true then (if mHolds (fql on) v3 (nI (nC v4)) = true then nI (nC v4) else (-12 : Int32)) else -12) = -12 := by
        rcases a1 with a1 | a1
        · rw [if_neg a1]
        · rw [if_neg a1]; split <;> rfl
      rw [e1]
      repeat' split
      all_goals first
        | rfl
        | (exfalso; rcases b with z | z | z | z | z | z | z <;> contradiction)
  · rw [if_neg c3, if_neg c3]
theorem copy_ce (hsn : sn < 4) (hon : on < 4) (hS : RSP fqo fql Fss Fsq) (hq : ∀ q9, q9 < 4 → fql q9 ≤ 40) : (m_X6_copy_ce Fss Fsq Fce (nI sn) v2 (nI on) v3 v4 = Fce ∧ m_X5_copy_A_r2 fql fqo frr fr2 sn on v2 v3 v4 = fr2 ∧ (sn = on → m_X5_copy_S_rr fql fqo frr sn v2 v3 v4 = frr)) ∨ ((∀ j, m_X6_copy_ce Fss Fsq Fce (nI sn) v2 (nI on) v3 v4 j = if 40 * on + nC v3 ≤ j ∧ j < 40 * on + nC v3 + nC v4 then Fce (40 * sn + nC v2 + (j - (40 * on + nC v3))) else Fce j) ∧ m_X5_copy_A_r2 fql fqo frr fr2 sn on v2 v3 v4 = va_cpy frr fr2 (nC v2) (nC v3) (nC v4) ∧ (sn = on → m_X5_copy_S_rr fql fqo frr sn v2 v3 v4 = va_cpy frr frr (nC v2) (nC v3) (nC v4)) ∧ nC v2 + nC v4 ≤ 40 ∧ nC v3 + nC v4 ≤ 40) := by
  have es : nC (nI sn) = sn := nC_nI (by omega)
  have eo : nC (nI on) = on := nC_nI (by omega)
  have hl1 := hq sn hsn
  have hl2 := hq on hon
  unfold m_X5_copy_A_r2 m_X6_copy_ce m_X5_copy_S_rr
  rw [if_pos (sn_in hsn), if_pos (sn_in hon), es, eo, (hS sn hsn).1, (hS on hon).1, ← (hS sn hsn).2, ← (hS on hon).2]
  by_cases c1 : Fss sn = (-1)
  · rw [if_pos c1, if_pos c1, if_pos c1]; exact Or.inl ⟨rfl, rfl, fun _ => rfl⟩
  rw [if_neg c1, if_neg c1, if_neg c1]
  by_cases c2 : Fss on = (-1)
  · rw [if_pos c2, if_pos c2]
    exact Or.inl ⟨rfl, rfl, fun z => absurd (by rw [z]; exact c2) c1⟩
  rw [if_neg c2, if_neg c2]
  by_cases c3 : Fss sn = Fss on
  · rw [if_pos c3, if_pos c3, if_pos (show Fss sn = Fss sn from rfl)]
    rcases copy_cond (a := v2) (d := v3) (n := v4) hl1 hl2 with ⟨a1, a2, b1, b2, b3, b4, b5, b6, b7, s1, s2⟩ | ⟨a1, b⟩
    · rw [if_pos a1, if_pos a2, if_neg b1, if_neg b2, if_neg b3, if_neg b4, if_neg b5, if_neg b6, if_pos b7, if_pos a1]
      refine Or.inr ⟨fun j => ?_, rfl, fun z => ?_, by omega, by omega⟩
      · rw [cp_all (by rw [es]; omega) (by rw [eo]; omega), es, eo]
      · subst z; rw [if_pos a2]
    · have e1 : (if mHolds (fql sn) v2 v4 = true then (if mHolds (fql on) v3 (nI (nC v4)) = true then va_cpy frr fr2 (nC v2) (nC v3) (nC v4) else fr2) else fr2) = fr2 := by
        rcases a1 with a1 | a1
        · rw [if_neg a1]
        · rw [if_neg a1]; split <;> rfl
      refine Or.inl ⟨?_, e1, fun z => ?_⟩
      · repeat' split
        all_goals first
          | rfl
          | (exfalso; rcases b with z | z | z | z | z | z | z <;> contradiction)
      · subst z
        rcases a1 with a1 | a1
        · rw [if_neg a1]
        · rw [if_neg a1]; split <;> rfl
  · rw [if_neg c3, if_neg c3]
    exact Or.inl ⟨rfl, rfl, fun z => absurd (by rw [z]) c3⟩
theorem copy_only (hsn : sn < 4) (hon : on < 4) (hS : RSP fqo fql Fss Fsq) (hq : ∀ q9, q9 < 4 → fql q9 ≤ 40) : Only on Fce (m_X6_copy_ce Fss Fsq Fce (nI sn) v2 (nI on) v3 v4) := by
  intro j hj
  rcases copy_ce (frr := Fce) (fr2 := Fce) (Fce := Fce) (v2 := v2) (v3 := v3) (v4 := v4) hsn hon hS hq with ⟨e, -, -⟩ | ⟨e, -, -, s1, s2⟩
  · rw [e]
  · rw [e, if_neg (by omega)]
theorem copy_row {Fce2 : Nat → Int32} (h2 : Fce2 = Fce) (hsn : sn < 4) (hon : on < 4) (hS : RSP fqo fql Fss Fsq) (hq : ∀ q9, q9 < 4 → fql q9 ≤ 40) (ha : ∀ i, i < 40 → cR wk (frr i) (Fce (40 * sn + i))) (hb : ∀ i, i < 40 → cR wk (fr2 i) (Fce (40 * on + i))) : ∀ i, i < 40 → cR wk (m_X5_copy_A_r2 fql fqo frr fr2 sn on v2 v3 v4 i) (m_X6_copy_ce Fss Fsq Fce (nI sn) v2 (nI on) v3 v4 (40 * on + i)) := by
  intro i hi
  rcases copy_ce (frr := frr) (fr2 := fr2) (Fce := Fce) (v2 := v2) (v3 := v3) (v4 := v4) hsn hon hS hq with ⟨e, f, -⟩ | ⟨e, f, -, s1, s2⟩
  · rw [e, f]; exact hb i hi
  · rw [e, f]
    unfold va_cpy
    by_cases c : nC v3 ≤ i ∧ i < nC v3 + nC v4
    · rw [if_pos c, if_pos (by omega), show 40 * sn + nC v2 + (40 * on + i - (40 * on + nC v3)) = 40 * sn + (nC v2 + (i - nC v3)) by omega]
      exact ha _ (by omega)
    · rw [if_neg c, if_neg (by omega)]; exact hb i hi
theorem copy_rowS (hsn : sn < 4) (hS : RSP fqo fql Fss Fsq) (hq : ∀ q9, q9 < 4 → fql q9 ≤ 40) (ha : ∀ i, i < 40 → cR wk (frr i) (Fce (40 * sn + i))) : ∀ i, i < 40 → cR wk (m_X5_copy_S_rr fql fqo frr sn v2 v3 v4 i) (m_X6_copy_ce Fss Fsq Fce (nI sn) v2 (nI sn) v3 v4 (40 * sn + i)) := by
  intro i hi
  rcases copy_ce (frr := frr) (fr2 := frr) (Fce := Fce) (v2 := v2) (v3 := v3) (v4 := v4) hsn hsn hS hq with ⟨e, -, f⟩ | ⟨e, -, f, s1, s2⟩
  · rw [e, f rfl]; exact ha i hi
  · rw [e, f rfl]
    unfold va_cpy
    by_cases c : nC v3 ≤ i ∧ i < nC v3 + nC v4
    · rw [if_pos c, if_pos (by omega), show 40 * sn + nC v2 + (40 * sn + i - (40 * sn + nC v3)) = 40 * sn + (nC v2 + (i - nC v3)) by omega]
      exact ha _ (by omega)
    · rw [if_neg c, if_neg (by omega)]; exact ha i hi
theorem copyS_res (hsn : sn < 4) (hS : RSP fqo fql Fss Fsq) (hq : ∀ q9, q9 < 4 → fql q9 ≤ 40) : m_X5_copy_S fql fqo sn v2 v3 v4 = m_X6_copy Fss Fsq (nI sn) v2 (nI sn) v3 v4 := by
  rw [← copy_res hsn hsn hS hq]
  unfold m_X5_copy_S m_X5_copy_A
  by_cases c1 : fqo sn = (-1)
  · rw [if_pos c1, if_pos c1]
  · rw [if_neg c1, if_neg c1]
end SHT
theorem back_same {jg pb kj kb Npb Njg ip ij il : Nat} {him : Int32} (hk : him = 0 ∨ kb ≤ 6) (hip : ip ≤ 6) (h : RNP jg pb kj kb him Npb Njg 1 (mHold (nI ip) (nI ij) (nI il))) : m_X5_back kb him = nI ip := by
  obtain ⟨h1, h2, h3, h4⟩ := h
  have hz : ¬ him = 0 := by rw [h3]; decide
  have e1 : nI ip = nI kb := (h4.resolve_left hz).1
  unfold m_X5_back
  rw [if_neg hz]; exact e1.symm
/-! all of it, and what each call makes of it -/
def InjT (fn : Nat → Option Nat) : Prop := ∀ s s' r, s < 4 → s' < 4 → fn s = some r → fn s' = some r → s = s'
def RLP (wk : Prop) (fn : Nat → Option Nat) (r0 r1 r2 r3 jg pb kj kb : Nat) (him : Int32) (fs0 fs1 fs2 fs3 fqo : Nat → Int32) (fql : Nat → Nat) (Npb Njg : Nat) (Zhi : Int32) (Fss : Nat → Int32) (Fsq : Nat → Nat) (Fce Fih : Nat → Int32) : Prop := RNP jg pb kj kb him Npb Njg Zhi Fih ∧ InjT fn ∧ RSP fqo fql Fss Fsq ∧ RowR wk fn Fce r0 fs0 ∧ RowR wk fn Fce r1 fs1 ∧ RowR wk fn Fce r2 fs2 ∧ RowR wk fn Fce r3 fs3
section RL
variable {wk : Prop} {fn : Nat → Option Nat} {r0 r1 r2 r3 jg pb kj kb Npb Njg Nru sn on ru ip ij il : Nat} {him Zhi v1 v2 v3 v4 v5 : Int32} {fs0 fs1 fs2 fs3 fqo Fss Fce Fih : Nat → Int32} {fql Fsq : Nat → Nat}
theorem rl_judge (hj : jg ≤ 4) (h : RLP wk fn r0 r1 r2 r3 jg pb kj kb him fs0 fs1 fs2 fs3 fqo fql Npb Njg Zhi Fss Fsq Fce Fih) : RLP wk fn r0 r1 r2 r3 (m_X5_judge_nw9 jg v1) pb kj kb him fs0 fs1 fs2 fs3 fqo fql Npb (m_X6_judge_h04 Njg v1) Zhi Fss Fsq Fce Fih := by
  refine ⟨⟨?_, h.1.2⟩, h.2⟩
  rw [← h.1.1]; exact jg_num hj
theorem rl_pebble (hp : pb ≤ 6) (h : RLP wk fn r0 r1 r2 r3 jg pb kj kb him fs0 fs1 fs2 fs3 fqo fql Npb Njg Zhi Fss Fsq Fce Fih) : RLP wk fn r0 r1 r2 r3 jg (m_X5_pebble_nw10 pb v1 v2) kj kb him fs0 fs1 fs2 fs3 fqo fql (m_X6_pebble_h00 Npb v1 v2) Njg Zhi Fss Fsq Fce Fih := by
  refine ⟨⟨h.1.1, ?_, h.1.2.2⟩, h.2⟩
  rw [← h.1.2.1]; exact pb_num (wk := False) hp (Or.inl rfl) (Or.inl rfl)
theorem rl_pebblesBy {fki fmo fsz frd Fkd Fmo Fst : Nat → Int32} (hp : pb ≤ 6) (hsn : sn < 4) (hr : fn sn = some r0) (hq : ∀ q9, q9 < 4 → fql q9 ≤ 40) (h : RLP wk fn r0 r1 r2 r3 jg pb kj kb him fs0 fs1 fs2 fs3 fqo fql Npb Njg Zhi Fss Fsq Fce Fih) : RLP wk fn r0 r1 r2 r3 jg (m_X5_pebblesBy_A_nw10 pb fql fki fmo fsz frd fqo fs0 sn v2 v3 v4) kj kb him fs0 fs1 fs2 fs3 fqo fql (m_X6_pebblesBy_h00 Npb Fss Fsq Fce Fkd Fmo Fst (nI sn) v2 v3 v4) Njg Zhi Fss Fsq Fce Fih := by
  refine ⟨⟨h.1.1, ?_, h.1.2.2⟩, h.2⟩
  rw [← h.1.2.1]; exact pbBy_num hsn h.2.2.1 hq hr h.2.2.2.1 hp
theorem rl_pebblesBy_B {Fkd Fmo Fst : Nat → Int32} (hno : ¬ (0 ≤ v1 ∧ v1 ≤ 3)) (h : RLP wk fn r0 r1 r2 r3 jg pb kj kb him fs0 fs1 fs2 fs3 fqo fql Npb Njg Zhi Fss Fsq Fce Fih) : RLP wk fn r0 r1 r2 r3 jg pb kj kb him fs0 fs1 fs2 fs3 fqo fql (m_X6_pebblesBy_h00 Npb Fss Fsq Fce Fkd Fmo Fst v1 v2 v3 v4) Njg Zhi Fss Fsq Fce Fih := by
  have e : m_X6_pebblesBy_h00 Npb Fss Fsq Fce Fkd Fmo Fst v1 v2 v3 v4 = Npb := by unfold m_X6_pebblesBy_h00; exact if_neg hno
  rw [e]; exact h
theorem rl_image (h : RLP wk fn r0 r1 r2 r3 jg pb kj kb him fs0 fs1 fs2 fs3 fqo fql Npb Njg Zhi Fss Fsq Fce Fih) : RLP wk fn r0 r1 r2 r3 jg pb jg pb 1 fs0 fs1 fs2 fs3 fqo fql Npb Njg 1 Fss Fsq Fce (mHold (nI Npb) (nI Njg) (nI Nru)) := by
  refine ⟨⟨h.1.1, h.1.2.1, rfl, Or.inr ⟨?_, ?_⟩⟩, h.2⟩
  · rw [h.1.2.1]; rfl
  · rw [h.1.1]; rfl
theorem rl_back_yes (hk : him = 0 ∨ (kj ≤ 4 ∧ kb ≤ 6)) (hip : ip ≤ 6) (hij : ij ≤ 4) (h : RLP wk fn r0 r1 r2 r3 jg pb kj kb him fs0 fs1 fs2 fs3 fqo fql Npb Njg 1 Fss Fsq Fce (mHold (nI ip) (nI ij) (nI il))) : RLP wk fn r0 r1 r2 r3 (m_X5_back_nw9 jg kj him) (m_X5_back_nw10 pb kb him) kj kb him fs0 fs1 fs2 fs3 fqo fql ip ij 1 Fss Fsq Fce (mHold (nI ip) (nI ij) (nI il)) := by
  obtain ⟨⟨h1, h2, h3, h4⟩, h5⟩ := h
  have hz : ¬ him = 0 := by rw [h3]; decide
  obtain ⟨k1, k2⟩ := hk.resolve_left hz
  obtain ⟨i1, i2⟩ := h4.resolve_left hz
  have e1 : nI ip = nI kb := i1
  have e2 : nI ij = nI kj := i2
  have e1 := nI_eq1 (by omega) (by omega) e1
  have e2 := nI_eq1 (by omega) (by omega) e2
  unfold m_X5_back_nw9 m_X5_back_nw10
  rw [if_neg hz, if_neg hz]
  exact ⟨⟨e2.symm, e1.symm, h3, Or.inr ⟨i1, i2⟩⟩, h5⟩
theorem rl_back_no (h : RLP wk fn r0 r1 r2 r3 jg pb kj kb him fs0 fs1 fs2 fs3 fqo fql Npb Njg 0 Fss Fsq Fce Fih) : RLP wk fn r0 r1 r2 r3 (m_X5_back_nw9 jg kj him) (m_X5_back_nw10 pb kb him) kj kb him fs0 fs1 fs2 fs3 fqo fql Npb Njg 0 Fss Fsq Fce Fih := by
  have e : him = 0 := h.1.2.2.1
  unfold m_X5_back_nw9 m_X5_back_nw10
  rw [if_pos e, if_pos e]; exact h
theorem rl_sheet (hsn : sn < 4) (hr : fn sn = some r0) (n1 : r0 ≠ r1) (n2 : r0 ≠ r2) (n3 : r0 ≠ r3) (h : RLP wk fn r0 r1 r2 r3 jg pb kj kb him fs0 fs1 fs2 fs3 fqo fql Npb Njg Zhi Fss Fsq Fce Fih) : RLP wk fn r0 r1 r2 r3 jg pb kj kb him (m_X5_sheet_A_rr fs0 v2 v3) fs1 fs2 fs3 (m_X5_sheet_A_qo fqo sn v2 v3) (m_X5_sheet_A_ql fql sn v2 v3) Npb Njg Zhi (m_X6_sheet_ss Fss (nI sn) v2 v3) (m_X6_sheet_sq Fsq (nI sn) v2 v3) (m_X6_sheet_ce Fce (nI sn) v2 v3) Fih := by
  obtain ⟨hN, hI, hS, a0, a1, a2, a3⟩ := h
  have ho : Only sn Fce (m_X6_sheet_ce Fce (nI sn) v2 v3) := sheet_only hsn
  exact ⟨hN, hI, sheet_S hsn hS, row_one (fun s s' x y u v => hI s s' r0 x y u v) hsn hr (sheet_row hsn (a0 sn hsn hr)), row_other ho hr n1 a1, row_other ho hr n2 a2, row_other ho hr n3 a3⟩
theorem rl_sheet_B (hno : ¬ (0 ≤ v1 ∧ v1 ≤ 3)) (h : RLP wk fn r0 r1 r2 r3 jg pb kj kb him fs0 fs1 fs2 fs3 fqo fql Npb Njg Zhi Fss Fsq Fce Fih) : RLP wk fn r0 r1 r2 r3 jg pb kj kb him fs0 fs1 fs2 fs3 fqo fql Npb Njg Zhi (m_X6_sheet_ss Fss v1 v2 v3) (m_X6_sheet_sq Fsq v1 v2 v3) (m_X6_sheet_ce Fce v1 v2 v3) Fih := by
  have e1 : m_X6_sheet_ss Fss v1 v2 v3 = Fss := by unfold m_X6_sheet_ss; exact if_neg hno
  have e2 : m_X6_sheet_sq Fsq v1 v2 v3 = Fsq := by unfold m_X6_sheet_sq; exact if_neg hno
  have e3 : m_X6_sheet_ce Fce v1 v2 v3 = Fce := by unfold m_X6_sheet_ce; exact if_neg hno
  rw [e1, e2, e3]; exact h
theorem rl_cell (hsn : sn < 4) (hr : fn sn = some r0) (n1 : r0 ≠ r1) (n2 : r0 ≠ r2) (n3 : r0 ≠ r3) (hq : ∀ q9, q9 < 4 → fql q9 ≤ 40) (h : RLP wk fn r0 r1 r2 r3 jg pb kj kb him fs0 fs1 fs2 fs3 fqo fql Npb Njg Zhi Fss Fsq Fce Fih) : RLP wk fn r0 r1 r2 r3 jg pb kj kb him (m_X5_cell_A_rr fql fqo fs0 sn v2 v3) fs1 fs2 fs3 fqo fql Npb Njg Zhi Fss Fsq (m_X6_cell_ce Fss Fsq Fce (nI sn) v2 v3) Fih := by
  obtain ⟨hN, hI, hS, a0, a1, a2, a3⟩ := h
  have ho : Only sn Fce (m_X6_cell_ce Fss Fsq Fce (nI sn) v2 v3) := cell_only hsn hS hq
  exact ⟨hN, hI, hS, row_one (fun s s' x y u v => hI s s' r0 x y u v) hsn hr (cell_row hsn hS hq (a0 sn hsn hr)), row_other ho hr n1 a1, row_other ho hr n2 a2, row_other ho hr n3 a3⟩
theorem rl_cell_B (hno : ¬ (0 ≤ v1 ∧ v1 ≤ 3)) (h : RLP wk fn r0 r1 r2 r3 jg pb kj kb him fs0 fs1 fs2 fs3 fqo fql Npb Njg Zhi Fss Fsq Fce Fih) : RLP wk fn r0 r1 r2 r3 jg pb kj kb him fs0 fs1 fs2 fs3 fqo fql Npb Njg Zhi Fss Fsq (m_X6_cell_ce Fss Fsq Fce v1 v2 v3) Fih := by
  have e3 : m_X6_cell_ce Fss Fsq Fce v1 v2 v3 = Fce := by unfold m_X6_cell_ce; exact if_neg hno
  rw [e3]; exact h
theorem rl_film {fet : Nat → Nat} {fso fmi fpa fki fmo fsz frd fct Fst Fro Fmo Fkd Fcd : Nat → Int32} {Fsr : Nat → Nat} (hp : pb ≤ 6) (hsn : sn < 4) (hr : fn sn = some r0) (n1 : r0 ≠ r1) (n2 : r0 ≠ r2) (n3 : r0 ≠ r3) (h : RLP True fn r0 r1 r2 r3 jg pb kj kb him fs0 fs1 fs2 fs3 fqo fql Npb Njg Zhi Fss Fsq Fce Fih) : RLP True fn r0 r1 r2 r3 jg pb kj kb him (m_X5_film_A_rr jg pb fet fso fmi fpa fki fmo fsz frd fct fqo fs0 sn v2 v3) fs1 fs2 fs3 (m_X5_film_A_qo jg fqo sn v2 v3) (m_X5_film_A_ql jg pb fql sn v2 v3) Npb Njg Zhi (m_X6_film_ss Njg Fss (nI sn) v2 v3) (m_X6_film_sq Npb Njg Fsq (nI sn) v2 v3) (m_X6_film_ce Npb Njg ru Fst Fro Fmo Fkd Fcd Fsr Fce (nI sn) v2 v3) Fih := by
  obtain ⟨⟨e1, e2, hN⟩, hI, hS, a0, a1, a2, a3⟩ := h
  subst e1 e2
  have ho : Only sn Fce (m_X6_film_ce pb jg ru Fst Fro Fmo Fkd Fcd Fsr Fce (nI sn) v2 v3) := film_only hsn hp
  exact ⟨⟨rfl, rfl, hN⟩, hI, film_S hsn hS, row_one (fun s s' x y u v => hI s s' r0 x y u v) hsn hr (film_row hsn hp (a0 sn hsn hr)), row_other ho hr n1 a1, row_other ho hr n2 a2, row_other ho hr n3 a3⟩
theorem rl_film_B {Fst Fro Fmo Fkd Fcd : Nat → Int32} {Fsr : Nat → Nat} (hno : ¬ (0 ≤ v1 ∧ v1 ≤ 3)) (h : RLP wk fn r0 r1 r2 r3 jg pb kj kb him fs0 fs1 fs2 fs3 fqo fql Npb Njg Zhi Fss Fsq Fce Fih) : RLP wk fn r0 r1 r2 r3 jg pb kj kb him fs0 fs1 fs2 fs3 fqo fql Npb Njg Zhi (m_X6_film_ss Njg Fss v1 v2 v3) (m_X6_film_sq Npb Njg Fsq v1 v2 v3) (m_X6_film_ce Npb Njg ru Fst Fro Fmo Fkd Fcd Fsr Fce v1 v2 v3) Fih := by
  have e1 : m_X6_film_ss Njg Fss v1 v2 v3 = Fss := by unfold m_X6_film_ss; exact if_neg hno
  have e2 : m_X6_film_sq Npb Njg Fsq v1 v2 v3 = Fsq := by unfold m_X6_film_sq; exact if_neg hno
  have e3 : m_X6_film_ce Npb Njg ru Fst Fro Fmo Fkd Fcd Fsr Fce v1 v2 v3 = Fce := by unfold m_X6_film_ce; exact if_neg hno
  rw [e1, e2, e3]; exact h
theorem rl_copy_A (hsn : sn < 4) (hr : fn sn = some r0) (hon : on < 4) (hr2 : fn on = some r1) (n1 : r1 ≠ r0) (n2 : r1 ≠ r2) (n3 : r1 ≠ r3) (hq : ∀ q9, q9 < 4 → fql q9 ≤ 40) (h : RLP wk fn r0 r1 r2 r3 jg pb kj kb him fs0 fs1 fs2 fs3 fqo fql Npb Njg Zhi Fss Fsq Fce Fih) : RLP wk fn r0 r1 r2 r3 jg pb kj kb him fs0 (m_X5_copy_A_r2 fql fqo fs0 fs1 sn on v2 v3 v4) fs2 fs3 fqo fql Npb Njg Zhi Fss Fsq (m_X6_copy_ce Fss Fsq Fce (nI sn) v2 (nI on) v3 v4) Fih := by
  obtain ⟨hN, hI, hS, a0, a1, a2, a3⟩ := h
  have ho : Only on Fce (m_X6_copy_ce Fss Fsq Fce (nI sn) v2 (nI on) v3 v4) := copy_only hsn hon hS hq
  exact ⟨hN, hI, hS, row_other ho hr2 n1 a0, row_one (fun s s' x y u v => hI s s' r1 x y u v) hon hr2 (copy_row (Fce2 := Fce) rfl hsn hon hS hq (a0 sn hsn hr) (a1 on hon hr2)), row_other ho hr2 n2 a2, row_other ho hr2 n3 a3⟩
theorem rl_copy_S (hsn : sn < 4) (hr : fn sn = some r0) (n1 : r0 ≠ r1) (n2 : r0 ≠ r2) (n3 : r0 ≠ r3) (hq : ∀ q9, q9 < 4 → fql q9 ≤ 40) (h : RLP wk fn r0 r1 r2 r3 jg pb kj kb him fs0 fs1 fs2 fs3 fqo fql Npb Njg Zhi Fss Fsq Fce Fih) : RLP wk fn r0 r1 r2 r3 jg pb kj kb him (m_X5_copy_S_rr fql fqo fs0 sn v2 v3 v4) fs1 fs2 fs3 fqo fql Npb Njg Zhi Fss Fsq (m_X6_copy_ce Fss Fsq Fce (nI sn) v2 (nI sn) v3 v4) Fih := by
  obtain ⟨hN, hI, hS, a0, a1, a2, a3⟩ := h
  have ho : Only sn Fce (m_X6_copy_ce Fss Fsq Fce (nI sn) v2 (nI sn) v3 v4) := copy_only hsn hsn hS hq
  exact ⟨hN, hI, hS, row_one (fun s s' x y u v => hI s s' r0 x y u v) hsn hr (copy_rowS hsn hS hq (a0 sn hsn hr)), row_other ho hr n1 a1, row_other ho hr n2 a2, row_other ho hr n3 a3⟩
theorem rl_copy_B (hno : ¬ (0 ≤ v1 ∧ v1 ≤ 3)) (h : RLP wk fn r0 r1 r2 r3 jg pb kj kb him fs0 fs1 fs2 fs3 fqo fql Npb Njg Zhi Fss Fsq Fce Fih) : RLP wk fn r0 r1 r2 r3 jg pb kj kb him fs0 fs1 fs2 fs3 fqo fql Npb Njg Zhi Fss Fsq (m_X6_copy_ce Fss Fsq Fce v1 v2 v3 v4 v5) Fih := by
  have e3 : m_X6_copy_ce Fss Fsq Fce v1 v2 v3 v4 v5 = Fce := by unfold m_X6_copy_ce; exact if_neg hno
  rw [e3]; exact h
theorem rl_copy_C (hsn : sn < 4) (hno : ¬ (0 ≤ v3 ∧ v3 ≤ 3)) (h : RLP wk fn r0 r1 r2 r3 jg pb kj kb him fs0 fs1 fs2 fs3 fqo fql Npb Njg Zhi Fss Fsq Fce Fih) : RLP wk fn r0 r1 r2 r3 jg pb kj kb him fs0 fs1 fs2 fs3 fqo fql Npb Njg Zhi Fss Fsq (m_X6_copy_ce Fss Fsq Fce (nI sn) v2 v3 v4 v5) Fih := by
  have e3 : m_X6_copy_ce Fss Fsq Fce (nI sn) v2 v3 v4 v5 = Fce := by unfold m_X6_copy_ce; rw [if_pos (sn_in hsn)]; exact if_neg hno
  rw [e3]; exact h
end RL
theorem inj_of {fn : Nat → Option Nat} {r0 r1 r2 r3 : Nat} (h0 : fn 0 = some r0) (h1 : fn 1 = some r1) (h2 : fn 2 = some r2) (h3 : fn 3 = some r3) (n01 : r0 ≠ r1) (n02 : r0 ≠ r2) (n03 : r0 ≠ r3) (n12 : r1 ≠ r2) (n13 : r1 ≠ r3) (n23 : r2 ≠ r3) : InjT fn := by
  intro s s' r hs hs' e e'
  have w : s = 0 ∨ s = 1 ∨ s = 2 ∨ s = 3 := by omega
  have w' : s' = 0 ∨ s' = 1 ∨ s' = 2 ∨ s' = 3 := by omega
  rcases w with z | z | z | z <;> rcases w' with z' | z' | z' | z' <;> subst z <;> subst z'
  · rfl
  · exact absurd (Option.some.inj ((h0.symm.trans e).trans (e'.symm.trans h1))) n01
  · exact absurd (Option.some.inj ((h0.symm.trans e).trans (e'.symm.trans h2))) n02
  · exact absurd (Option.some.inj ((h0.symm.trans e).trans (e'.symm.trans h3))) n03
  · exact absurd ((Option.some.inj ((h1.symm.trans e).trans (e'.symm.trans h0))).symm) n01
  · rfl
  · exact absurd (Option.some.inj ((h1.symm.trans e).trans (e'.symm.trans h2))) n12
  · exact absurd (Option.some.inj ((h1.symm.trans e).trans (e'.symm.trans h3))) n13
  · exact absurd ((Option.some.inj ((h2.symm.trans e).trans (e'.symm.trans h0))).symm) n02
  · exact absurd ((Option.some.inj ((h2.symm.trans e).trans (e'.symm.trans h1))).symm) n12
  · rfl
  · exact absurd (Option.some.inj ((h2.symm.trans e).trans (e'.symm.trans h3))) n23
  · exact absurd ((Option.some.inj ((h3.symm.trans e).trans (e'.symm.trans h0))).symm) n03
  · exact absurd ((Option.some.inj ((h3.symm.trans e).trans (e'.symm.trans h1))).symm) n13
  · exact absurd ((Option.some.inj ((h3.symm.trans e).trans (e'.symm.trans h2))).symm) n23
  · rfl
theorem qo_init : ∀ s, s < 4 → gFl (-1) (fun _ => 0) 4 s = upd (upd (upd (upd (fun _ => 0) 0 (-1)) 1 (-1)) 2 (-1)) 3 (-1) s := by decide +kernel
theorem rl_init {wk : Prop} {fn : Nat → Option Nat} {r0 r1 r2 r3 : Nat} (hI : InjT fn) : RLP wk fn r0 r1 r2 r3 0 0 0 0 0 (fun _ => 0) (fun _ => 0) (fun _ => 0) (fun _ => 0) (gFl (-1) (fun _ => 0) 4) (fun _ => 0) 0 0 0 (upd (upd (upd (upd (fun _ => 0) 0 (-1)) 1 (-1)) 2 (-1)) 3 (-1)) (fun _ => 0) (fun _ => 0) (fun _ => 0) := ⟨⟨rfl, rfl, rfl, Or.inl rfl⟩, hI, fun s hs => ⟨qo_init s hs, rfl⟩, fun _ _ _ _ _ => Or.inl rfl, fun _ _ _ _ _ => Or.inl rfl, fun _ _ _ _ _ => Or.inl rfl, fun _ _ _ _ _ => Or.inl rfl⟩
