/-! what the reference holds while it reads: the depth of the stack by the signs that are held -/
def isB (c : Int32) : Prop := c = 11 ∨ c = 12 ∨ c = 14 ∨ c = 15 ∨ c = 16 ∨ c = 17 ∨ c = 18
noncomputable def isBb (c : Int32) : Bool := c == 11 || c == 12 || c == 14 || c == 15 || c == 16 || c == 17 || c == 18
theorem isBb_t {c : Int32} (h : isB c) : isBb c = true := by rcases h with e | e | e | e | e | e | e <;> rw [e] <;> decide
def okH (c : Int32) : Prop := c = 0 ∨ c = 13 ∨ c = 19 ∨ isB c
noncomputable def bins (fhe : Nat → Int32) : Nat → Nat
  | 0 => 0
  | h + 1 => bins fhe h + (if isBb (fhe h) = true then 1 else 0)
theorem bins_eq {f g : Nat → Int32} : ∀ {h : Nat}, (∀ i, i < h → f i = g i) → bins f h = bins g h
  | 0, _ => rfl
  | h + 1, e => by rw [bins, bins, bins_eq (fun i hi => e i (by omega)), e h (by omega)]
theorem bins_le {f : Nat → Int32} : ∀ (h : Nat), bins f h ≤ h
  | 0 => Nat.le_refl _
  | h + 1 => by
    have a := bins_le (f := f) h
    rw [bins]
    by_cases c : isBb (f h) = true
    · rw [if_pos c]; omega
    · rw [if_neg c]; omega
noncomputable def dpS (c : Int32) (n : Nat) : Option Nat :=
  if 100000 ≤ c ∨ c < 11 then (if (c < 11 → 0 ≤ c ∧ c < 6) ∧ n < 200 then some (n + 1) else none)
  else if c = 13 ∨ c = 19 then (if 1 ≤ n then some n else none) else (if 2 ≤ n then some (n - 1) else none)
noncomputable def dp (f : Nat → Int32) (sp : Nat) : Nat → Option Nat
  | 0 => some 0
  | q + 1 => match dp f sp q with
    | none => none
    | some n => dpS (f (sp + q)) n
theorem dp_eq {f g : Nat → Int32} {sp : Nat} : ∀ {q : Nat}, (∀ i, i < q → f (sp + i) = g (sp + i)) → dp f sp q = dp g sp q
  | 0, _ => rfl
  | q + 1, e => by rw [dp, dp, dp_eq (fun i hi => e i (by omega)), e q (by omega)]
theorem dp_s {f : Nat → Int32} {sp q n : Nat} (h : dp f sp q = some n) : dp f sp (q + 1) = dpS (f (sp + q)) n := by rw [dp, h]
theorem dpS_ok {f : Nat → Int32} {k n n' rest : Nat} (h : dpS (f k) n = some n') (hr : vOK 200 f rest (k + 1) n') : vOK 200 f (rest + 1) k n := by
  rw [vOK]
  unfold dpS at h
  by_cases c1 : 100000 ≤ f k ∨ f k < 11
  · rw [if_pos c1] at h ⊢
    by_cases c2 : (f k < 11 → 0 ≤ f k ∧ f k < 6) ∧ n < 200
    · rw [if_pos c2] at h
      cases h
      exact ⟨c2, hr⟩
    · rw [if_neg c2] at h; cases h
  · rw [if_neg c1] at h ⊢
    by_cases c2 : f k = 13 ∨ f k = 19
    · rw [if_pos c2] at h ⊢
      by_cases c3 : 1 ≤ n
      · rw [if_pos c3] at h; cases h; exact ⟨c3, hr⟩
      · rw [if_neg c3] at h; cases h
    · rw [if_neg c2] at h ⊢
      by_cases c3 : 2 ≤ n
      · rw [if_pos c3] at h; cases h; exact ⟨c3, hr⟩
      · rw [if_neg c3] at h; cases h
theorem dp_ok {f : Nat → Int32} {sp : Nat} : ∀ {q n rest : Nat}, dp f sp q = some n → vOK 200 f rest (sp + q) n → vOK 200 f (q + rest) sp 0
  | 0, n, rest, h, hr => by
    cases h
    rw [Nat.zero_add]
    exact hr
  | q + 1, n, rest, h, hr => by
    cases e : dp f sp q with
    | none => rw [dp, e] at h; cases h
    | some m =>
      rw [dp_s e] at h
      have h2 := dp_ok (rest := rest + 1) e (dpS_ok h hr)
      rw [show q + 1 + rest = q + (rest + 1) by omega]
      exact h2
noncomputable def eF (fcd : Nat → Int32) (tx : Nat) : Nat → Int32 := fun i => fcd (200 * tx + i)
/-- codes from sp to ou, signs held: w more is wanted -/
def eI (fcd fhe : Nat → Int32) (tx sp ou hm w : Nat) : Prop := sp ≤ ou ∧ dp (eF fcd tx) sp (ou - sp) = some (bins fhe hm + 1 - w) ∧ ∀ i, i < hm → okH (fhe i)
theorem eI_code {fcd : Nat → Int32} {tx sp ou n n' : Nat} {c : Int32} (hs : sp ≤ ou) (h : dp (eF fcd tx) sp (ou - sp) = some n) (hc : dpS c n = some n') : dp (eF (upd fcd (200 * tx + ou) c) tx) sp (ou + 1 - sp) = some n' := by
  have e : ou + 1 - sp = (ou - sp) + 1 := by omega
  have h2 : dp (eF (upd fcd (200 * tx + ou) c) tx) sp (ou - sp) = some n := by
    rw [← h]
    refine dp_eq (fun i hi => ?_)
    show upd fcd (200 * tx + ou) c (200 * tx + (sp + i)) = fcd (200 * tx + (sp + i))
    exact upd_n9 (by omega)
  rw [e, dp_s h2]
  have h3 : eF (upd fcd (200 * tx + ou) c) tx (sp + (ou - sp)) = c := by
    show upd fcd (200 * tx + ou) c (200 * tx + (sp + (ou - sp))) = c
    exact upd_a9 (by omega)
  rw [h3]
  exact hc
theorem dpS_push {c : Int32} {n : Nat} (h : 100000 ≤ c ∨ (0 ≤ c ∧ c < 6)) (hn : n < 200) : dpS c n = some (n + 1) := by
  have c1 : 100000 ≤ c ∨ c < 11 := h.imp id (fun z => by
    have a : c.toInt < (6 : Int) := Int32.lt_iff_toInt_lt.mp z.2
    exact Int32.lt_iff_toInt_lt.mpr (by show c.toInt < (11 : Int); omega))
  unfold dpS
  rw [if_pos c1, if_pos]
  refine ⟨fun z => ?_, hn⟩
  rcases h with h | h
  · exact absurd z (Int32.not_lt.mpr (s11 h))
  · exact h
/-- a number or a name is put: nothing is wanted -/
theorem eI_put {fcd fhe : Nat → Int32} {tx sp ou hm : Nat} {c : Int32} (h : eI fcd fhe tx sp ou hm 1) (hc : 100000 ≤ c ∨ (0 ≤ c ∧ c < 6)) (hm2 : hm < 199) : eI (upd fcd (200 * tx + ou) c) fhe tx sp (ou + 1) hm 0 := by
  obtain ⟨h1, h2, h3⟩ := h
  have hb := bins_le (f := fhe) hm
  refine ⟨by omega, ?_, h3⟩
  rw [eI_code h1 h2 (dpS_push hc (by omega))]
  congr 1
/-- a sign is held -/
theorem eI_hold {fcd fhe : Nat → Int32} {tx sp ou hm w w' : Nat} {c : Int32} (h : eI fcd fhe tx sp ou hm w) (hc : okH c) (hw : bins fhe hm + 1 - w = bins fhe hm + (if isBb c = true then 1 else 0) + 1 - w') : eI fcd (upd fhe hm c) tx sp ou (hm + 1) w' := by
  obtain ⟨h1, h2, h3⟩ := h
  refine ⟨h1, ?_, fun i hi => ?_⟩
  · rw [h2, hw]
    congr 2
    rw [bins, bins_eq (f := upd fhe hm c) (g := fhe) (fun i hi => upd_n9 (by omega)), upd_a9 rfl]
  · by_cases e : i = hm
    · subst e; rw [upd_a9 rfl]; exact hc
    · rw [upd_n9 e]; exact h3 i (by omega)
theorem dpS_pop {c : Int32} {b : Nat} (h : okH c) (h0 : ¬ c = 0) : dpS c (b + (if isBb c = true then 1 else 0) + 1) = some (b + 1) := by
  have key : ∀ c : Int32, (c = 13 ∨ c = 19) → dpS c (b + 0 + 1) = some (b + 1) := by
    intro c hc
    unfold dpS
    rw [if_neg (by rcases hc with e | e <;> rw [e] <;> decide), if_pos hc, if_pos (by omega)]
  have key2 : ∀ c : Int32, isB c → dpS c (b + 1 + 1) = some (b + 1) := by
    intro c hc
    unfold dpS
    rw [if_neg (by rcases hc with e | e | e | e | e | e | e <;> rw [e] <;> decide), if_neg (by rcases hc with e | e | e | e | e | e | e <;> rw [e] <;> decide), if_pos (by omega)]
    rfl
  rcases h with e | e | e | hB
  · exact absurd e h0
  · have z : (if isBb c = true then 1 else 0) = 0 := by rw [e]; decide
    rw [z]
    exact key c (Or.inl e)
  · have z : (if isBb c = true then 1 else 0) = 0 := by rw [e]; decide
    rw [z]
    exact key c (Or.inr e)
  · have z : (if isBb c = true then 1 else 0) = 1 := if_pos (isBb_t hB)
    rw [z]
    exact key2 c hB
theorem rank_0 {c least : Int32} (hl : 1 ≤ least) (h : ¬ m_X6_rank c < least) : ¬ c = 0 := by
  intro e
  subst e
  refine h ?_
  have a : (1 : Int) ≤ least.toInt := Int32.le_iff_toInt_le.mp hl
  exact Int32.lt_iff_toInt_lt.mpr (by show (0 : Int) < least.toInt; omega)
theorem eI_pop {fcd fhe : Nat → Int32} {tx sp ou hm : Nat} (h : eI fcd fhe tx sp ou (hm + 1) 0) (h0 : ¬ fhe hm = 0) : eI (upd fcd (200 * tx + ou) (fhe hm)) fhe tx sp (ou + 1) hm 0 := by
  obtain ⟨h1, h2, h3⟩ := h
  refine ⟨by omega, ?_, fun i hi => h3 i (by omega)⟩
  have e : bins fhe (hm + 1) + 1 - 0 = bins fhe hm + (if isBb (fhe hm) = true then 1 else 0) + 1 := rfl
  rw [e] at h2
  exact eI_code h1 h2 (dpS_pop (h3 hm (by omega)) h0)
theorem uw_eI {tx sp hm : Nat} {fhe : Nat → Int32} {least : Int32} (hl : 1 ≤ least) : ∀ (q u : Nat) (cd : Nat → Int32) (z : Int32) (o : Nat), u + q = hm → eI cd fhe tx sp o (hm - u) 0 → eI (p_X6_unwinds_0 tx fhe least hm q u cd z o).2.1 fhe tx sp (p_X6_unwinds_0 tx fhe least hm q u cd z o).2.2.2 (hm - (p_X6_unwinds_0 tx fhe least hm q u cd z o).1) 0 ∧ ∀ i, (i < 200 * tx + o ∨ 200 * tx + 200 ≤ i) → o + q ≤ 200 → (p_X6_unwinds_0 tx fhe least hm q u cd z o).2.1 i = cd i
  | 0, u, cd, z, o, h, hI => ⟨hI, fun i _ _ => rfl⟩
  | q + 1, u, cd, z, o, h, hI => by
    rw [p_X6_unwinds_0]
    by_cases c1 : (m_X6_rank (fhe ((hm - u) - 1))) < least
    · rw [if_pos c1]; exact ⟨hI, fun i _ _ => rfl⟩
    · rw [if_neg c1]
      have h0 := rank_0 hl c1
      have hI2 : eI (upd cd (200 * tx + o) (fhe ((hm - u) - 1))) fhe tx sp (o + 1) (hm - (u + 1)) 0 := by
        rw [show hm - u = (hm - (u + 1)) + 1 by omega] at hI
        rw [show (hm - u) - 1 = hm - (u + 1) by omega] at h0 ⊢
        exact eI_pop hI h0
      have step : ∀ z', (eI (p_X6_unwinds_0 tx fhe least hm q (u + 1) (upd cd (200 * tx + o) (fhe ((hm - u) - 1))) z' (o + 1)).2.1 fhe tx sp (p_X6_unwinds_0 tx fhe least hm q (u + 1) (upd cd (200 * tx + o) (fhe ((hm - u) - 1))) z' (o + 1)).2.2.2 (hm - (p_X6_unwinds_0 tx fhe least hm q (u + 1) (upd cd (200 * tx + o) (fhe ((hm - u) - 1))) z' (o + 1)).1) 0 ∧ ∀ i, (i < 200 * tx + o ∨ 200 * tx + 200 ≤ i) → o + (q + 1) ≤ 200 → (p_X6_unwinds_0 tx fhe least hm q (u + 1) (upd cd (200 * tx + o) (fhe ((hm - u) - 1))) z' (o + 1)).2.1 i = cd i) := fun z' => by
        obtain ⟨a1, a2⟩ := uw_eI hl q (u + 1) (upd cd (200 * tx + o) (fhe ((hm - u) - 1))) z' (o + 1) (by omega) hI2
        refine ⟨a1, fun i hi ho => ?_⟩
        rw [a2 i (by omega) (by omega)]
        exact upd_n9 (by omega)
      by_cases c2 : (fhe ((hm - u) - 1)) = 13
      · rw [if_pos c2]; exact step _
      · rw [if_neg c2]
        by_cases c3 : (fhe ((hm - u) - 1)) = 19
        · rw [if_pos c3]; exact step _
        · rw [if_neg c3]; exact step _
theorem uw_use {tx sp hm ou : Nat} {s26 : Int32} {fcd fhe : Nat → Int32} {v0 : Int32} (hl : 1 ≤ v0) (h : eI fcd fhe tx sp ou hm 0) : eI (m_X6_unwinds_cd tx s26 fcd fhe v0 hm ou) fhe tx sp (m_X6_unwinds_h027 tx s26 fcd fhe v0 hm ou) (m_X6_unwinds_h025 tx s26 fcd fhe v0 hm ou) 0 ∧ ∀ i, (i < 200 * tx + ou ∨ 200 * tx + 200 ≤ i) → ou + hm ≤ 200 → m_X6_unwinds_cd tx s26 fcd fhe v0 hm ou i = fcd i :=
  uw_eI hl (hm - 0) 0 fcd s26 ou (by omega) h
theorem uw_topu {tx hm ou : Nat} {s26 : Int32} {fcd fhe : Nat → Int32} {v0 : Int32} (h : ¬ m_X6_unwinds_h025 tx s26 fcd fhe v0 hm ou = 0) : m_X6_rank (fhe (m_X6_unwinds_h025 tx s26 fcd fhe v0 hm ou - 1)) < v0 := by
  have h2 : ¬ hm - (g_X6_unwinds_0 tx s26 fcd fhe v0 hm ou).1 = 0 := h
  exact uw_top (tx := tx) (fhe := fhe) (v0 := v0) (hm := hm) (hm - 0) 0 fcd s26 ou (by omega) (show (g_X6_unwinds_0 tx s26 fcd fhe v0 hm ou).1 < hm by omega)
theorem okH_r1 {c : Int32} (h : okH c) (hr : m_X6_rank c < 1) : isBb c = false := by
  rcases h with e | e | e | e | e | e | e | e | e | e
  · subst e; decide
  all_goals
    subst e
    exact absurd hr (by decide +kernel)
theorem eI_drop {fcd fhe : Nat → Int32} {tx sp ou hm w : Nat} (h : eI fcd fhe tx sp ou (hm + 1) w) (h0 : isBb (fhe hm) = false) : eI fcd fhe tx sp ou hm w := by
  obtain ⟨h1, h2, h3⟩ := h
  refine ⟨h1, ?_, fun i hi => h3 i (by omega)⟩
  rw [h2, bins, if_neg (by rw [h0]; decide)]
  first | done | rfl
theorem eI_start {fcd fhe : Nat → Int32} {tx ou : Nat} : eI fcd fhe tx ou ou 0 1 := by
  refine ⟨Nat.le_refl _, ?_, fun i hi => absurd hi (Nat.not_lt_zero i)⟩
  rw [Nat.sub_self]
  rfl
theorem eI_w0 {fcd fhe : Nat → Int32} {tx sp ou hm : Nat} {wv : Int32} (hI : (wv = 1 ∧ eI fcd fhe tx sp ou hm 1) ∨ (wv = 0 ∧ eI fcd fhe tx sp ou hm 0)) (c : wv = 0) : eI fcd fhe tx sp ou hm 0 := hI.elim (fun z => absurd (z.1.symm.trans c) (by decide +kernel)) (fun z => z.2)
theorem eI_w1 {fcd fhe : Nat → Int32} {tx sp ou hm : Nat} {wv : Int32} (hI : (wv = 1 ∧ eI fcd fhe tx sp ou hm 1) ∨ (wv = 0 ∧ eI fcd fhe tx sp ou hm 0)) (c : ¬ wv = 0) : eI fcd fhe tx sp ou hm 1 ∧ wv = 1 := hI.elim (fun z => ⟨z.2, z.1⟩) (fun z => absurd z.1 c)
theorem eI_end {fcd fhe : Nat → Int32} {tx sp ou : Nat} (h : eI fcd fhe tx sp ou 0 0) : dp (eF fcd tx) sp (ou - sp) = some 1 := h.2.1
theorem oo_use {op : Int32} {yh : Nat → Int32} {v : Int32} {hm : Nat} (h : ¬ m_X6_opensOne op = 0) : m_X6_opensOne_h025 op hm = hm + 1 ∧ m_X6_opensOne_he op yh v hm = upd yh hm v := by
  have h5 : ¬ op = 5 := fun z => h (by unfold m_X6_opensOne; rw [if_pos z])
  unfold m_X6_opensOne_h025 m_X6_opensOne_he
  exact ⟨if_neg h5, if_neg h5⟩
theorem sg_ok {t : Int32} (h : ¬ m_X6_signOf t = -1) : isB (m_X6_signOf t) ∧ ¬ t = 0 := by
  refine ⟨?_, fun z => h (by rw [z]; decide)⟩
  revert h
  unfold m_X6_signOf isB
  repeat' split
  all_goals
    intro h
    first
      | exact absurd rfl h
      | decide
noncomputable def m_X6_between (tx : Nat) (s26 : Int32) (fcd : Nat → Int32) (fhe : Nat → Int32) (v0 : Int32) (hm : Nat) (ou : Nat) : Int32 := if (m_X6_rank v0) = 4 then (if (nI (m_X6_unwinds_h025 tx s26 fcd fhe 5 hm ou)) ≤ 0 then 1 else (if (m_X6_rank (fhe ((m_X6_unwinds_h025 tx s26 fcd fhe 5 hm ou) - 1))) = 4 then 0 else 1)) else 1
noncomputable def m_X6_between_h025 (tx : Nat) (s26 : Int32) (fcd : Nat → Int32) (fhe : Nat → Int32) (v0 : Int32) (hm : Nat) (ou : Nat) : Nat := if (m_X6_rank v0) = 4 then (if (nI (m_X6_unwinds_h025 tx s26 fcd fhe 5 hm ou)) ≤ 0 then ((m_X6_unwinds_h025 tx s26 fcd fhe 5 hm ou) + 1) else (if (m_X6_rank (fhe ((m_X6_unwinds_h025 tx s26 fcd fhe 5 hm ou) - 1))) = 4 then (m_X6_unwinds_h025 tx s26 fcd fhe 5 hm ou) else ((m_X6_unwinds_h025 tx s26 fcd fhe 5 hm ou) + 1))) else ((m_X6_unwinds_h025 tx s26 fcd fhe (m_X6_rank v0) hm ou) + 1)
noncomputable def m_X6_between_h026 (tx : Nat) (s26 : Int32) (fcd : Nat → Int32) (fhe : Nat → Int32) (v0 : Int32) (hm : Nat) (ou : Nat) : Int32 := if (m_X6_rank v0) = 4 then (m_X6_unwinds_h026 tx s26 fcd fhe 5 hm ou) else (m_X6_unwinds_h026 tx s26 fcd fhe (m_X6_rank v0) hm ou)
noncomputable def m_X6_between_h027 (tx : Nat) (s26 : Int32) (fcd : Nat → Int32) (fhe : Nat → Int32) (v0 : Int32) (hm : Nat) (ou : Nat) : Nat := if (m_X6_rank v0) = 4 then (m_X6_unwinds_h027 tx s26 fcd fhe 5 hm ou) else (m_X6_unwinds_h027 tx s26 fcd fhe (m_X6_rank v0) hm ou)
noncomputable def m_X6_between_cd (tx : Nat) (s26 : Int32) (fcd : Nat → Int32) (fhe : Nat → Int32) (v0 : Int32) (hm : Nat) (ou : Nat) : Nat → Int32 := if (m_X6_rank v0) = 4 then (m_X6_unwinds_cd tx s26 fcd fhe 5 hm ou) else (m_X6_unwinds_cd tx s26 fcd fhe (m_X6_rank v0) hm ou)
noncomputable def m_X6_between_he (tx : Nat) (s26 : Int32) (fcd : Nat → Int32) (fhe : Nat → Int32) (v0 : Int32) (hm : Nat) (ou : Nat) : Nat → Int32 := if (m_X6_rank v0) = 4 then (if (nI (m_X6_unwinds_h025 tx s26 fcd fhe 5 hm ou)) ≤ 0 then (upd fhe (m_X6_unwinds_h025 tx s26 fcd fhe 5 hm ou) v0) else (if (m_X6_rank (fhe ((m_X6_unwinds_h025 tx s26 fcd fhe 5 hm ou) - 1))) = 4 then fhe else (upd fhe (m_X6_unwinds_h025 tx s26 fcd fhe 5 hm ou) v0))) else (upd fhe (m_X6_unwinds_h025 tx s26 fcd fhe (m_X6_rank v0) hm ou) v0)
abbrev q_X6_between (G : gG) (h0 kd mo st ro tp cd sr ir ih ss sq ce lw wo he sk na kp gb go fa ga vo : Nat) (pb : Nat) (jg : Nat) (td : Nat) (tx : Nat) (ru : Nat) (him : Int32) (s19 : Int32) (s20 : Int32) (s21 : Int32) (s22 : Int32) (s26 : Int32) (s31 : Int32) (s32 : Int32) (s33 : Int32) (s34 : Int32) (s39 : Int32) (s40 : Int32) (fcd : Nat → Int32) (fhe : Nat → Int32) (v0 : Int32) (hm : Nat) (ou : Nat) (A : Nat → Prop) : Array Value → State → Outcome → State → Prop := va_Qi (fun (r : Int32) (u : Unit) => match u with | _ => r = m_X6_between tx s26 fcd fhe v0 hm ou) (fun (u : Unit) t => match u with | _ => va_P G.1 vwCl [zo6 h0 (nI pb) kd mo st (nI jg) ro tp (nI td) cd sr (nI tx) (nI ru) him ir ih ss sq ce lw s19 s20 s21 s22 wo he (nI (m_X6_between_h025 tx s26 fcd fhe v0 hm ou)) (m_X6_between_h026 tx s26 fcd fhe v0 hm ou) (nI (m_X6_between_h027 tx s26 fcd fhe v0 hm ou)) sk na kp s31 s32 s33 s34 gb go fa ga s39 s40 vo, zi G cd 1200 (m_X6_between_cd tx s26 fcd fhe v0 hm ou), zi G he 200 (m_X6_between_he tx s26 fcd fhe v0 hm ou)] t.heap ∧ gK G t ∧ va_D A [zo6 h0 (nI pb) kd mo st (nI jg) ro tp (nI td) cd sr (nI tx) (nI ru) him ir ih ss sq ce lw s19 s20 s21 s22 wo he (nI (m_X6_between_h025 tx s26 fcd fhe v0 hm ou)) (m_X6_between_h026 tx s26 fcd fhe v0 hm ou) (nI (m_X6_between_h027 tx s26 fcd fhe v0 hm ou)) sk na kp s31 s32 s33 s34 gb go fa ga s39 s40 vo, zi G cd 1200 (m_X6_between_cd tx s26 fcd fhe v0 hm ou), zi G he 200 (m_X6_between_he tx s26 fcd fhe v0 hm ou)]) A
set_option maxHeartbeats 4000000 in
set_option maxRecDepth 100000 in
theorem c_X6_between (l : Launch) (G : gG) (h0 kd mo st ro tp cd sr ir ih ss sq ce lw wo he sk na kp gb go fa ga vo : Nat) (pb : Nat) (jg : Nat) (td : Nat) (tx : Nat) (ru : Nat) (him : Int32) (s19 : Int32) (s20 : Int32) (s21 : Int32) (s22 : Int32) (s26 : Int32) (s31 : Int32) (s32 : Int32) (s33 : Int32) (s34 : Int32) (s39 : Int32) (s40 : Int32) (fcd : Nat → Int32) (fhe : Nat → Int32) (v0 : Int32) (hm : Nat) (ou : Nat) (sz : Nat) (hom : ou + hm < 199) (htx : tx < 6) : Met l yX6_between wsX6_between ({ frames := 2, cells := 0, slots := 0, locals := 43 }) (gPre G [.ref h0, .int v0] [zo6 h0 (nI pb) kd mo st (nI jg) ro tp (nI td) cd sr (nI tx) (nI ru) him ir ih ss sq ce lw s19 s20 s21 s22 wo he (nI hm) s26 (nI ou) sk na kp s31 s32 s33 s34 gb go fa ga s39 s40 vo, zi G cd 1200 fcd, zi G he 200 fhe] sz) (q_X6_between G h0 kd mo st ro tp cd sr ir ih ss sq ce lw wo he sk na kp gb go fa ga vo pb jg td tx ru him s19 s20 s21 s22 s26 s31 s32 s33 s34 s39 s40 fcd fhe v0 hm ou (va_A [zo6 h0 (nI pb) kd mo st (nI jg) ro tp (nI td) cd sr (nI tx) (nI ru) him ir ih ss sq ce lw s19 s20 s21 s22 wo he (nI hm) s26 (nI ou) sk na kp s31 s32 s33 s34 gb go fa ga s39 s40 vo, zi G cd 1200 fcd, zi G he 200 fhe] sz)) 0 0 (va_A [zo6 h0 (nI pb) kd mo st (nI jg) ro tp (nI td) cd sr (nI tx) (nI ru) him ir ih ss sq ce lw s19 s20 s21 s22 wo he (nI hm) s26 (nI ou) sk na kp s31 s32 s33 s34 gb go fa ga s39 s40 vo, zi G cd 1200 fcd, zi G he 200 fhe] sz) := by
  refine Met.ofW (cc := cX6_between) (maxL := 2) (ret := (some .boolean)) (by decide +kernel) rfl ?_
  intro p e s m args below meth c s₁ B hml hv
  obtain ⟨rfl, hsz, hP, hK, hD0⟩ := hv
  have hx := B.exec
  have hb := B.bytes
  have hr := B.returns
  have hts := atoms_spec (ws := wsX6_between) B.pre
  have hown : s.vm.findClass RX6 = some m.cls := findClass_of_methodNamed B.named
  have hlocks := B.notSynchronized
  subst hsz
  have hD := hD0.self (sz := s.heap.size)
  generalize hAe : va_A [zo6 h0 (nI pb) kd mo st (nI jg) ro tp (nI td) cd sr (nI tx) (nI ru) him ir ih ss sq ce lw s19 s20 s21 s22 wo he (nI hm) s26 (nI ou) sk na kp s31 s32 s33 s34 gb go fa ga s39 s40 vo, zi G cd 1200 fcd, zi G he 200 fhe] s.heap.size = A at hD ⊢
  have hA : ∀ q : Nat, s.heap.size ≤ q → A q := fun q h => by rw [← hAe]; exact Or.inr h
  have hS : va_S A s.heap s.heap [] := va_S.rf
  have hz9 : gPD G A [zo6 h0 (nI pb) kd mo st (nI jg) ro tp (nI td) cd sr (nI tx) (nI ru) him ir ih ss sq ce lw s19 s20 s21 s22 wo he (nI hm) s26 (nI ou) sk na kp s31 s32 s33 s34 gb go fa ga s39 s40 vo, zi G cd 1200 fcd, zi G he 200 fhe] s.heap := ⟨hP, hD⟩
  have hP := hz9.1
  have hD := hz9.2
  have hl := lv_entry ([.ref h0, .int v0]) (n := 2) (Nat.le_of_ble_eq_true rfl)
  rw [lg_entry_eq]
  generalize (lg_sl ([.ref h0, .int v0]) ++ List.replicate (2 - (lg_sl ([.ref h0, .int v0])).length) Slot.unset).toArray = ls at hl ⊢
  have hl : lv_has ls 2 [zR 0 h0, zI 1 v0] := hl
  have kf130 := hts (.fieldLink RX6 130 "PebbleInShoeModel" "heldMany" "I") (by decide +kernel)
  have hiX6 := (by decide +kernel : ∀ w ∈ wsX60, w ∈ wsX6_between)
  have kf52 := hts (.fieldLink RX6 52 "PebbleInShoeModel" "held" "[I") (by decide +kernel)
  refine lv_aload_n hx hb dX6_between_0 rfl (lv_at hl 0 rfl) ?_
  refine lv_iload_n hx hb dX6_between_1 rfl (lv_at hl 1 rfl) ?_
  refine z_calli [] (v := m_X6_rank v0) (fun _ _ h => h) (va_runS (As := [.int v0]) (rest := [.ref h0]) ⟨hx, hb, hml, hown, hts⟩ (c_X6_rank l G v0 s.heap.size) (va_cwS 1 hts gX6_between_X6_rank rfl rfl rfl (by decide +kernel) ⟨Nat.le_of_ble_eq_true rfl, Nat.le_of_ble_eq_true rfl⟩) ⟨gPre_blind, fun U hU hW => gPre_ofF [] hU hW hK hP hD (by decide +kernel) rfl⟩ rfl rfl hl.1 rfl (lv_room (Nat.le_of_ble_eq_true rfl)) dX6_between_2 ⟨Nat.le_of_ble_eq_true rfl, Nat.le_of_ble_eq_true rfl⟩) hS hD hA rfl (fun u t H locs ht hvm hB hz1 hk1 hFq hAq hS => ?_)
  obtain ⟨hP1, hK1, hD1⟩ := hB
  have hP := zKeep hP hD [] hAq hk1 ht hP1 rfl
  refine lv_iconst (v := 4) hx hb dX6_between_5 (by decide +kernel) ?_
  refine lv_icmp_ne (tgt := 13) hx hb dX6_between_6 (by decide +kernel) (fun c_3 => ?_) (fun c_3 => ?_)
  · skip
    refine lv_iload_n hx hb dX6_between_13 rfl (lv_at hl 1 rfl) ?_
    refine z_calli [] (v := m_X6_rank v0) (fun _ _ h => h) (va_runS (As := [.int v0]) (rest := [.ref h0]) ⟨hx, hb, hml, hown, hts⟩ (c_X6_rank l G v0 H.size) (va_cwS 1 hts gX6_between_X6_rank rfl rfl rfl (by decide +kernel) ⟨Nat.le_of_ble_eq_true rfl, Nat.le_of_ble_eq_true rfl⟩) ⟨gPre_blind, fun U hU hW => gPre_ofF [] hU hW hK hP hD (by decide +kernel) rfl⟩ rfl rfl hl.1 rfl (lv_room (Nat.le_of_ble_eq_true rfl)) dX6_between_14 ⟨Nat.le_of_ble_eq_true rfl, Nat.le_of_ble_eq_true rfl⟩) hS hD hA rfl (fun u t H locs ht hvm hB hz1 hk1 hFq hAq hS => ?_)
    obtain ⟨hP1, hK1, hD1⟩ := hB
    have hP := zKeep hP hD [] hAq hk1 ht hP1 rfl
    refine z_callv [0, 1, 2] (va_runV (As := [.int (m_X6_rank v0)]) (rest := []) ⟨hx, hb, hml, hown, hts⟩ (c_X6_unwinds l G h0 kd mo st ro tp cd sr ir ih ss sq ce lw wo he sk na kp gb go fa ga vo pb jg td tx ru him s19 s20 s21 s22 s26 s31 s32 s33 s34 s39 s40 fcd fhe (m_X6_rank v0) hm ou H.size (by omega) (by first | exact htx | assumption | omega)) (cwV 1 hts gX6_between_X6_unwinds rfl rfl rfl (by decide +kernel) ⟨Nat.le_of_ble_eq_true rfl, Nat.le_of_ble_eq_true rfl⟩) ⟨gPre_blind, va_recv (q := (RX6, TX6, 42)) hK hP (ci := 6) (q0 := 0) rfl rfl, fun U hU hW => gPre_of hU hW hK hP hD⟩ rfl rfl hl.1 rfl (lv_room (Nat.le_of_ble_eq_true rfl)) dX6_between_17 ⟨Nat.le_of_ble_eq_true rfl, Nat.le_of_ble_eq_true rfl⟩) hS hD hA rfl (fun u t H locs ht hvm w_7 hB hz1 hk1 hFq hAq hS => ?_)
    obtain ⟨hP1, hK1, hD1⟩ := hB
    have w_7 : (m_X6_unwinds_h025 tx s26 fcd fhe (m_X6_rank v0) hm ou) ≤ hm ∧ (m_X6_unwinds_h027 tx s26 fcd fhe (m_X6_rank v0) hm ou) + (m_X6_unwinds_h025 tx s26 fcd fhe (m_X6_rank v0) hm ou) = ou + hm := w_7
    have hz9 : gPD G A [zo6 h0 (nI pb) kd mo st (nI jg) ro tp (nI td) cd sr (nI tx) (nI ru) him ir ih ss sq ce lw s19 s20 s21 s22 wo he (nI (m_X6_unwinds_h025 tx s26 fcd fhe (m_X6_rank v0) hm ou)) (m_X6_unwinds_h026 tx s26 fcd fhe (m_X6_rank v0) hm ou) (nI (m_X6_unwinds_h027 tx s26 fcd fhe (m_X6_rank v0) hm ou)) sk na kp s31 s32 s33 s34 gb go fa ga s39 s40 vo, zi G cd 1200 (m_X6_unwinds_cd tx s26 fcd fhe (m_X6_rank v0) hm ou), zi G he 200 fhe] H := zFill hP hD [0, 1, 2] [1, 2, 3] hAq hk1 hFq ht hP1 hD1 rfl (by decide +kernel)
    have hP := hz9.1
    have hD := hz9.2
    have huw := w_7
    refine lv_iload_n hx hb dX6_between_20 rfl (lv_at hl 1 rfl) ?_
    refine z_calli [] (v := m_X6_rank v0) (fun _ _ h => h) (va_runS (As := [.int v0]) (rest := []) ⟨hx, hb, hml, hown, hts⟩ (c_X6_rank l G v0 H.size) (va_cwS 1 hts gX6_between_X6_rank rfl rfl rfl (by decide +kernel) ⟨Nat.le_of_ble_eq_true rfl, Nat.le_of_ble_eq_true rfl⟩) ⟨gPre_blind, fun U hU hW => gPre_ofF [] hU hW hK hP hD (by decide +kernel) rfl⟩ rfl rfl hl.1 rfl (lv_room (Nat.le_of_ble_eq_true rfl)) dX6_between_21 ⟨Nat.le_of_ble_eq_true rfl, Nat.le_of_ble_eq_true rfl⟩) hS hD hA rfl (fun u t H locs ht hvm hB hz1 hk1 hFq hAq hS => ?_)
    obtain ⟨hP1, hK1, hD1⟩ := hB
    have hP := zKeep hP hD [] hAq hk1 ht hP1 rfl
    refine lv_iconst (v := 4) hx hb dX6_between_24 (by decide +kernel) ?_
    refine lv_icmp_ne (tgt := 55) hx hb dX6_between_25 (by decide +kernel) (fun c_10 => ?_) (fun c_10 => ?_)
    rotate_left
    · exact absurd c_10 (c_3)
    refine lv_aload_n hx hb dX6_between_55 rfl (lv_at hl 0 rfl) ?_
    refine lv_iload_n hx hb dX6_between_56 rfl (lv_at hl 1 rfl) ?_
    refine z_callv [0, 2] (va_runV (As := [.int v0]) (rest := []) ⟨hx, hb, hml, hown, hts⟩ (c_X6_holds l G h0 kd mo st ro tp cd sr ir ih ss sq ce lw wo he sk na kp gb go fa ga vo pb jg td tx ru him s19 s20 s21 s22 (m_X6_unwinds_h026 tx s26 fcd fhe (m_X6_rank v0) hm ou) (nI (m_X6_unwinds_h027 tx s26 fcd fhe (m_X6_rank v0) hm ou)) s31 s32 s33 s34 s39 s40 fhe v0 (m_X6_unwinds_h025 tx s26 fcd fhe (m_X6_rank v0) hm ou) H.size (by omega)) (cwV 1 hts gX6_between_X6_holds rfl rfl rfl (by decide +kernel) ⟨Nat.le_of_ble_eq_true rfl, Nat.le_of_ble_eq_true rfl⟩) ⟨gPre_blind, va_recv (q := (RX6, TX6, 42)) hK hP (ci := 6) (q0 := 0) rfl rfl, fun U hU hW => gPre_ofF [0, 2] hU hW hK hP hD (by decide +kernel) rfl⟩ rfl rfl hl.1 rfl (lv_room (Nat.le_of_ble_eq_true rfl)) dX6_between_57 ⟨Nat.le_of_ble_eq_true rfl, Nat.le_of_ble_eq_true rfl⟩) hS hD hA rfl (fun u t H locs ht hvm w_12 hB hz1 hk1 hFq hAq hS => ?_)
    obtain ⟨hP1, hK1, hD1⟩ := hB
    have hz9 : gPD G A [zo6 h0 (nI pb) kd mo st (nI jg) ro tp (nI td) cd sr (nI tx) (nI ru) him ir ih ss sq ce lw s19 s20 s21 s22 wo he (nI (((m_X6_unwinds_h025 tx s26 fcd fhe (m_X6_rank v0) hm ou) + 1))) (m_X6_unwinds_h026 tx s26 fcd fhe (m_X6_rank v0) hm ou) (nI (m_X6_unwinds_h027 tx s26 fcd fhe (m_X6_rank v0) hm ou)) sk na kp s31 s32 s33 s34 gb go fa ga s39 s40 vo, zi G cd 1200 (m_X6_unwinds_cd tx s26 fcd fhe (m_X6_rank v0) hm ou), zi G he 200 (upd fhe (m_X6_unwinds_h025 tx s26 fcd fhe (m_X6_rank v0) hm ou) v0)] H := zFill hP hD [0, 2] [1, 0, 2] hAq hk1 hFq ht hP1 hD1 rfl (by decide +kernel)
    have hP := hz9.1
    have hD := hz9.2
    refine lv_iconst (v := 1) hx hb dX6_between_60 (by decide +kernel) ?_
    have q_13 : m_X6_between_h025 tx s26 fcd fhe v0 hm ou = (m_X6_unwinds_h025 tx s26 fcd fhe (m_X6_rank v0) hm ou) + 1 := by unfold m_X6_between_h025; rw [if_neg c_3]
    have q_14 : m_X6_between_h026 tx s26 fcd fhe v0 hm ou = (m_X6_unwinds_h026 tx s26 fcd fhe (m_X6_rank v0) hm ou) := by unfold m_X6_between_h026; rw [if_neg c_3]
    have q_15 : m_X6_between_h027 tx s26 fcd fhe v0 hm ou = m_X6_unwinds_h027 tx s26 fcd fhe (m_X6_rank v0) hm ou := by unfold m_X6_between_h027; rw [if_neg c_3]
    have q_16 : m_X6_between_cd tx s26 fcd fhe v0 hm ou = (m_X6_unwinds_cd tx s26 fcd fhe (m_X6_rank v0) hm ou) := by unfold m_X6_between_cd; rw [if_neg c_3]
    have q_17 : m_X6_between_he tx s26 fcd fhe v0 hm ou = (upd fhe (m_X6_unwinds_h025 tx s26 fcd fhe (m_X6_rank v0) hm ou) v0) := by unfold m_X6_between_he; rw [if_neg c_3]
    have hz9 : gPD G A [zo6 h0 (nI pb) kd mo st (nI jg) ro tp (nI td) cd sr (nI tx) (nI ru) him ir ih ss sq ce lw s19 s20 s21 s22 wo he (nI (m_X6_between_h025 tx s26 fcd fhe v0 hm ou)) (m_X6_between_h026 tx s26 fcd fhe v0 hm ou) (nI (m_X6_between_h027 tx s26 fcd fhe v0 hm ou)) sk na kp s31 s32 s33 s34 gb go fa ga s39 s40 vo, zi G cd 1200 (m_X6_between_cd tx s26 fcd fhe v0 hm ou), zi G he 200 (m_X6_between_he tx s26 fcd fhe v0 hm ou)] H := ⟨by rw [q_13, q_14, q_15, q_16, q_17]; exact hP, by rw [q_13, q_14, q_15, q_16, q_17]; exact hD⟩
    have hP9 := hz9.1
    have hD9 := hz9.2
    have hpost : (fun (r : Int32) (u : Unit) => match u with | _ => r = m_X6_between tx s26 fcd fhe v0 hm ou) 1 () := (show m_X6_between tx s26 fcd fhe v0 hm ou = 1 from by unfold m_X6_between; rw [if_neg c_3]).symm
    exact W.zret (v := 1) hx hb hr (rfl) (fun t ht hW => ⟨⟨1, (), rfl, hpost, by rw [ht]; exact hP9, va_K.moved hW.alike hK, hD9⟩, hS.F ht⟩) hS.2.2 dX6_between_61
  · skip
    refine lv_iconst (v := 5) hx hb dX6_between_9 (by decide +kernel) ?_
    refine lv_goto (tgt := 17) hx hb dX6_between_10 (by decide +kernel) ?_
    refine z_callv [0, 1, 2] (va_runV (As := [.int 5]) (rest := []) ⟨hx, hb, hml, hown, hts⟩ (c_X6_unwinds l G h0 kd mo st ro tp cd sr ir ih ss sq ce lw wo he sk na kp gb go fa ga vo pb jg td tx ru him s19 s20 s21 s22 s26 s31 s32 s33 s34 s39 s40 fcd fhe 5 hm ou H.size (by omega) (by first | exact htx | assumption | omega)) (cwV 1 hts gX6_between_X6_unwinds rfl rfl rfl (by decide +kernel) ⟨Nat.le_of_ble_eq_true rfl, Nat.le_of_ble_eq_true rfl⟩) ⟨gPre_blind, va_recv (q := (RX6, TX6, 42)) hK hP (ci := 6) (q0 := 0) rfl rfl, fun U hU hW => gPre_of hU hW hK hP hD⟩ rfl rfl hl.1 rfl (lv_room (Nat.le_of_ble_eq_true rfl)) dX6_between_17 ⟨Nat.le_of_ble_eq_true rfl, Nat.le_of_ble_eq_true rfl⟩) hS hD hA rfl (fun u t H locs ht hvm w_19 hB hz1 hk1 hFq hAq hS => ?_)
    obtain ⟨hP1, hK1, hD1⟩ := hB
    have w_19 : (m_X6_unwinds_h025 tx s26 fcd fhe 5 hm ou) ≤ hm ∧ (m_X6_unwinds_h027 tx s26 fcd fhe 5 hm ou) + (m_X6_unwinds_h025 tx s26 fcd fhe 5 hm ou) = ou + hm := w_19
    have hz9 : gPD G A [zo6 h0 (nI pb) kd mo st (nI jg) ro tp (nI td) cd sr (nI tx) (nI ru) him ir ih ss sq ce lw s19 s20 s21 s22 wo he (nI (m_X6_unwinds_h025 tx s26 fcd fhe 5 hm ou)) (m_X6_unwinds_h026 tx s26 fcd fhe 5 hm ou) (nI (m_X6_unwinds_h027 tx s26 fcd fhe 5 hm ou)) sk na kp s31 s32 s33 s34 gb go fa ga s39 s40 vo, zi G cd 1200 (m_X6_unwinds_cd tx s26 fcd fhe 5 hm ou), zi G he 200 fhe] H := zFill hP hD [0, 1, 2] [1, 2, 3] hAq hk1 hFq ht hP1 hD1 rfl (by decide +kernel)
    have hP := hz9.1
    have hD := hz9.2
    have huw := w_19
    refine lv_iload_n hx hb dX6_between_20 rfl (lv_at hl 1 rfl) ?_
    refine z_calli [] (v := m_X6_rank v0) (fun _ _ h => h) (va_runS (As := [.int v0]) (rest := []) ⟨hx, hb, hml, hown, hts⟩ (c_X6_rank l G v0 H.size) (va_cwS 1 hts gX6_between_X6_rank rfl rfl rfl (by decide +kernel) ⟨Nat.le_of_ble_eq_true rfl, Nat.le_of_ble_eq_true rfl⟩) ⟨gPre_blind, fun U hU hW => gPre_ofF [] hU hW hK hP hD (by decide +kernel) rfl⟩ rfl rfl hl.1 rfl (lv_room (Nat.le_of_ble_eq_true rfl)) dX6_between_21 ⟨Nat.le_of_ble_eq_true rfl, Nat.le_of_ble_eq_true rfl⟩) hS hD hA rfl (fun u t H locs ht hvm hB hz1 hk1 hFq hAq hS => ?_)
    obtain ⟨hP1, hK1, hD1⟩ := hB
    have hP := zKeep hP hD [] hAq hk1 ht hP1 rfl
    refine lv_iconst (v := 4) hx hb dX6_between_24 (by decide +kernel) ?_
    refine lv_icmp_ne (tgt := 55) hx hb dX6_between_25 (by decide +kernel) (fun c_22 => ?_) (fun c_22 => ?_)
    · exact absurd (c_3) c_22
    refine g_aget (D := G.1) (ci := 6) (v := .int (nI (m_X6_unwinds_h025 tx s26 fcd fhe 5 hm ou))) (C := RX6) (T := TX6) (N := 42) hx hb dX6_between_28 rfl (lv_at hl 0 rfl) hts hiX6 hown hK hP 0 rfl rfl 25 (by decide +kernel) kf130 (fun _ h9 => h9) rfl dX6_between_29 ?_
    refine lv_if_le (tgt := 55) hx hb dX6_between_32 (by decide +kernel) (fun c_23 => ?_) (fun c_23 => ?_)
    · skip
      have c_23N : (m_X6_unwinds_h025 tx s26 fcd fhe 5 hm ou) ≤ 0 := nI_le1 (a := (m_X6_unwinds_h025 tx s26 fcd fhe 5 hm ou)) (b := 0) (by omega) (by omega) c_23
      refine lv_aload_n hx hb dX6_between_55 rfl (lv_at hl 0 rfl) ?_
      refine lv_iload_n hx hb dX6_between_56 rfl (lv_at hl 1 rfl) ?_
      refine z_callv [0, 2] (va_runV (As := [.int v0]) (rest := []) ⟨hx, hb, hml, hown, hts⟩ (c_X6_holds l G h0 kd mo st ro tp cd sr ir ih ss sq ce lw wo he sk na kp gb go fa ga vo pb jg td tx ru him s19 s20 s21 s22 (m_X6_unwinds_h026 tx s26 fcd fhe 5 hm ou) (nI (m_X6_unwinds_h027 tx s26 fcd fhe 5 hm ou)) s31 s32 s33 s34 s39 s40 fhe v0 (m_X6_unwinds_h025 tx s26 fcd fhe 5 hm ou) H.size (by omega)) (cwV 1 hts gX6_between_X6_holds rfl rfl rfl (by decide +kernel) ⟨Nat.le_of_ble_eq_true rfl, Nat.le_of_ble_eq_true rfl⟩) ⟨gPre_blind, va_recv (q := (RX6, TX6, 42)) hK hP (ci := 6) (q0 := 0) rfl rfl, fun U hU hW => gPre_ofF [0, 2] hU hW hK hP hD (by decide +kernel) rfl⟩ rfl rfl hl.1 rfl (lv_room (Nat.le_of_ble_eq_true rfl)) dX6_between_57 ⟨Nat.le_of_ble_eq_true rfl, Nat.le_of_ble_eq_true rfl⟩) hS hD hA rfl (fun u t H locs ht hvm w_25 hB hz1 hk1 hFq hAq hS => ?_)
      obtain ⟨hP1, hK1, hD1⟩ := hB
      have hz9 : gPD G A [zo6 h0 (nI pb) kd mo st (nI jg) ro tp (nI td) cd sr (nI tx) (nI ru) him ir ih ss sq ce lw s19 s20 s21 s22 wo he (nI (((m_X6_unwinds_h025 tx s26 fcd fhe 5 hm ou) + 1))) (m_X6_unwinds_h026 tx s26 fcd fhe 5 hm ou) (nI (m_X6_unwinds_h027 tx s26 fcd fhe 5 hm ou)) sk na kp s31 s32 s33 s34 gb go fa ga s39 s40 vo, zi G cd 1200 (m_X6_unwinds_cd tx s26 fcd fhe 5 hm ou), zi G he 200 (upd fhe (m_X6_unwinds_h025 tx s26 fcd fhe 5 hm ou) v0)] H := zFill hP hD [0, 2] [1, 0, 2] hAq hk1 hFq ht hP1 hD1 rfl (by decide +kernel)
      have hP := hz9.1
      have hD := hz9.2
      refine lv_iconst (v := 1) hx hb dX6_between_60 (by decide +kernel) ?_
      have q_26 : m_X6_between_h025 tx s26 fcd fhe v0 hm ou = (m_X6_unwinds_h025 tx s26 fcd fhe 5 hm ou) + 1 := by unfold m_X6_between_h025; rw [if_pos c_3, if_pos c_23]
      have q_27 : m_X6_between_h026 tx s26 fcd fhe v0 hm ou = (m_X6_unwinds_h026 tx s26 fcd fhe 5 hm ou) := by unfold m_X6_between_h026; rw [if_pos c_3]
      have q_28 : m_X6_between_h027 tx s26 fcd fhe v0 hm ou = m_X6_unwinds_h027 tx s26 fcd fhe 5 hm ou := by unfold m_X6_between_h027; rw [if_pos c_3]
      have q_29 : m_X6_between_cd tx s26 fcd fhe v0 hm ou = (m_X6_unwinds_cd tx s26 fcd fhe 5 hm ou) := by unfold m_X6_between_cd; rw [if_pos c_3]
      have q_30 : m_X6_between_he tx s26 fcd fhe v0 hm ou = (upd fhe (m_X6_unwinds_h025 tx s26 fcd fhe 5 hm ou) v0) := by unfold m_X6_between_he; rw [if_pos c_3, if_pos c_23]
      have hz9 : gPD G A [zo6 h0 (nI pb) kd mo st (nI jg) ro tp (nI td) cd sr (nI tx) (nI ru) him ir ih ss sq ce lw s19 s20 s21 s22 wo he (nI (m_X6_between_h025 tx s26 fcd fhe v0 hm ou)) (m_X6_between_h026 tx s26 fcd fhe v0 hm ou) (nI (m_X6_between_h027 tx s26 fcd fhe v0 hm ou)) sk na kp s31 s32 s33 s34 gb go fa ga s39 s40 vo, zi G cd 1200 (m_X6_between_cd tx s26 fcd fhe v0 hm ou), zi G he 200 (m_X6_between_he tx s26 fcd fhe v0 hm ou)] H := ⟨by rw [q_26, q_27, q_28, q_29, q_30]; exact hP, by rw [q_26, q_27, q_28, q_29, q_30]; exact hD⟩
      have hP9 := hz9.1
      have hD9 := hz9.2
      have hpost : (fun (r : Int32) (u : Unit) => match u with | _ => r = m_X6_between tx s26 fcd fhe v0 hm ou) 1 () := (show m_X6_between tx s26 fcd fhe v0 hm ou = 1 from by unfold m_X6_between; rw [if_pos c_3, if_pos c_23]).symm
      exact W.zret (v := 1) hx hb hr (rfl) (fun t ht hW => ⟨⟨1, (), rfl, hpost, by rw [ht]; exact hP9, va_K.moved hW.alike hK, hD9⟩, hS.F ht⟩) hS.2.2 dX6_between_61
    · skip
      have c_23N : 0 < (m_X6_unwinds_h025 tx s26 fcd fhe 5 hm ou) := nI_le0 (a := (m_X6_unwinds_h025 tx s26 fcd fhe 5 hm ou)) (b := 0) (by omega) (by omega) c_23
      refine g_aget (D := G.1) (ci := 6) (v := .ref he) (C := RX6) (T := TX6) (N := 42) hx hb dX6_between_35 rfl (lv_at hl 0 rfl) hts hiX6 hown hK hP 0 rfl rfl 24 (by decide +kernel) kf52 (fun _ h9 => h9) rfl dX6_between_36 ?_
      refine g_aget (D := G.1) (ci := 6) (v := .int (nI (m_X6_unwinds_h025 tx s26 fcd fhe 5 hm ou))) (C := RX6) (T := TX6) (N := 42) hx hb dX6_between_39 rfl (lv_at hl 0 rfl) hts hiX6 hown hK hP 0 rfl rfl 25 (by decide +kernel) kf130 (fun _ h9 => h9) rfl dX6_between_40 ?_
      refine lv_iconst (v := 1) hx hb dX6_between_43 (by decide +kernel) ?_
      refine lv_isub hx hb dX6_between_44 ?_
      refine g_topi (y := nI ((m_X6_unwinds_h025 tx s26 fcd fhe 5 hm ou) - 1)) (pk_sub (a := (m_X6_unwinds_h025 tx s26 fcd fhe 5 hm ou)) (b := 1) (by omega)) ?_
      refine g_iald (D := G.1) hx hb hK hP 2 0 rfl rfl (k := (m_X6_unwinds_h025 tx s26 fcd fhe 5 hm ou) - 1) (y := fhe ((m_X6_unwinds_h025 tx s26 fcd fhe 5 hm ou) - 1)) (by omega) rfl rfl dX6_between_45 ?_
      refine z_calli [] (v := m_X6_rank (fhe ((m_X6_unwinds_h025 tx s26 fcd fhe 5 hm ou) - 1))) (fun _ _ h => h) (va_runS (As := [.int (fhe ((m_X6_unwinds_h025 tx s26 fcd fhe 5 hm ou) - 1))]) (rest := []) ⟨hx, hb, hml, hown, hts⟩ (c_X6_rank l G (fhe ((m_X6_unwinds_h025 tx s26 fcd fhe 5 hm ou) - 1)) H.size) (va_cwS 1 hts gX6_between_X6_rank rfl rfl rfl (by decide +kernel) ⟨Nat.le_of_ble_eq_true rfl, Nat.le_of_ble_eq_true rfl⟩) ⟨gPre_blind, fun U hU hW => gPre_ofF [] hU hW hK hP hD (by decide +kernel) rfl⟩ rfl rfl hl.1 rfl (lv_room (Nat.le_of_ble_eq_true rfl)) dX6_between_46 ⟨Nat.le_of_ble_eq_true rfl, Nat.le_of_ble_eq_true rfl⟩) hS hD hA rfl (fun u t H locs ht hvm hB hz1 hk1 hFq hAq hS => ?_)
      obtain ⟨hP1, hK1, hD1⟩ := hB
      have hP := zKeep hP hD [] hAq hk1 ht hP1 rfl
      refine lv_iconst (v := 4) hx hb dX6_between_49 (by decide +kernel) ?_
      refine lv_icmp_ne (tgt := 55) hx hb dX6_between_50 (by decide +kernel) (fun c_35 => ?_) (fun c_35 => ?_)
      · skip
        refine lv_aload_n hx hb dX6_between_55 rfl (lv_at hl 0 rfl) ?_
        refine lv_iload_n hx hb dX6_between_56 rfl (lv_at hl 1 rfl) ?_
        refine z_callv [0, 2] (va_runV (As := [.int v0]) (rest := []) ⟨hx, hb, hml, hown, hts⟩ (c_X6_holds l G h0 kd mo st ro tp cd sr ir ih ss sq ce lw wo he sk na kp gb go fa ga vo pb jg td tx ru him s19 s20 s21 s22 (m_X6_unwinds_h026 tx s26 fcd fhe 5 hm ou) (nI (m_X6_unwinds_h027 tx s26 fcd fhe 5 hm ou)) s31 s32 s33 s34 s39 s40 fhe v0 (m_X6_unwinds_h025 tx s26 fcd fhe 5 hm ou) H.size (by omega)) (cwV 1 hts gX6_between_X6_holds rfl rfl rfl (by decide +kernel) ⟨Nat.le_of_ble_eq_true rfl, Nat.le_of_ble_eq_true rfl⟩) ⟨gPre_blind, va_recv (q := (RX6, TX6, 42)) hK hP (ci := 6) (q0 := 0) rfl rfl, fun U hU hW => gPre_ofF [0, 2] hU hW hK hP hD (by decide +kernel) rfl⟩ rfl rfl hl.1 rfl (lv_room (Nat.le_of_ble_eq_true rfl)) dX6_between_57 ⟨Nat.le_of_ble_eq_true rfl, Nat.le_of_ble_eq_true rfl⟩) hS hD hA rfl (fun u t H locs ht hvm w_37 hB hz1 hk1 hFq hAq hS => ?_)
        obtain ⟨hP1, hK1, hD1⟩ := hB
        have hz9 : gPD G A [zo6 h0 (nI pb) kd mo st (nI jg) ro tp (nI td) cd sr (nI tx) (nI ru) him ir ih ss sq ce lw s19 s20 s21 s22 wo he (nI (((m_X6_unwinds_h025 tx s26 fcd fhe 5 hm ou) + 1))) (m_X6_unwinds_h026 tx s26 fcd fhe 5 hm ou) (nI (m_X6_unwinds_h027 tx s26 fcd fhe 5 hm ou)) sk na kp s31 s32 s33 s34 gb go fa ga s39 s40 vo, zi G cd 1200 (m_X6_unwinds_cd tx s26 fcd fhe 5 hm ou), zi G he 200 (upd fhe (m_X6_unwinds_h025 tx s26 fcd fhe 5 hm ou) v0)] H := zFill hP hD [0, 2] [1, 0, 2] hAq hk1 hFq ht hP1 hD1 rfl (by decide +kernel)
        have hP := hz9.1
        have hD := hz9.2
        refine lv_iconst (v := 1) hx hb dX6_between_60 (by decide +kernel) ?_
        have q_38 : m_X6_between_h025 tx s26 fcd fhe v0 hm ou = (m_X6_unwinds_h025 tx s26 fcd fhe 5 hm ou) + 1 := by unfold m_X6_between_h025; rw [if_pos c_3, if_neg c_23, if_neg c_35]
        have q_39 : m_X6_between_h026 tx s26 fcd fhe v0 hm ou = (m_X6_unwinds_h026 tx s26 fcd fhe 5 hm ou) := by unfold m_X6_between_h026; rw [if_pos c_3]
        have q_40 : m_X6_between_h027 tx s26 fcd fhe v0 hm ou = m_X6_unwinds_h027 tx s26 fcd fhe 5 hm ou := by unfold m_X6_between_h027; rw [if_pos c_3]
        have q_41 : m_X6_between_cd tx s26 fcd fhe v0 hm ou = (m_X6_unwinds_cd tx s26 fcd fhe 5 hm ou) := by unfold m_X6_between_cd; rw [if_pos c_3]
        have q_42 : m_X6_between_he tx s26 fcd fhe v0 hm ou = (upd fhe (m_X6_unwinds_h025 tx s26 fcd fhe 5 hm ou) v0) := by unfold m_X6_between_he; rw [if_pos c_3, if_neg c_23, if_neg c_35]
        have hz9 : gPD G A [zo6 h0 (nI pb) kd mo st (nI jg) ro tp (nI td) cd sr (nI tx) (nI ru) him ir ih ss sq ce lw s19 s20 s21 s22 wo he (nI (m_X6_between_h025 tx s26 fcd fhe v0 hm ou)) (m_X6_between_h026 tx s26 fcd fhe v0 hm ou) (nI (m_X6_between_h027 tx s26 fcd fhe v0 hm ou)) sk na kp s31 s32 s33 s34 gb go fa ga s39 s40 vo, zi G cd 1200 (m_X6_between_cd tx s26 fcd fhe v0 hm ou), zi G he 200 (m_X6_between_he tx s26 fcd fhe v0 hm ou)] H := ⟨by rw [q_38, q_39, q_40, q_41, q_42]; exact hP, by rw [q_38, q_39, q_40, q_41, q_42]; exact hD⟩
        have hP9 := hz9.1
        have hD9 := hz9.2
        have hpost : (fun (r : Int32) (u : Unit) => match u with | _ => r = m_X6_between tx s26 fcd fhe v0 hm ou) 1 () := (show m_X6_between tx s26 fcd fhe v0 hm ou = 1 from by unfold m_X6_between; rw [if_pos c_3, if_neg c_23, if_neg c_35]).symm
        exact W.zret (v := 1) hx hb hr (rfl) (fun t ht hW => ⟨⟨1, (), rfl, hpost, by rw [ht]; exact hP9, va_K.moved hW.alike hK, hD9⟩, hS.F ht⟩) hS.2.2 dX6_between_61
      · skip
        refine lv_iconst (v := 0) hx hb dX6_between_53 (by decide +kernel) ?_
        have q_43 : m_X6_between_h025 tx s26 fcd fhe v0 hm ou = m_X6_unwinds_h025 tx s26 fcd fhe 5 hm ou := by unfold m_X6_between_h025; rw [if_pos c_3, if_neg c_23, if_pos c_35]
        have q_44 : m_X6_between_h026 tx s26 fcd fhe v0 hm ou = (m_X6_unwinds_h026 tx s26 fcd fhe 5 hm ou) := by unfold m_X6_between_h026; rw [if_pos c_3]
        have q_45 : m_X6_between_h027 tx s26 fcd fhe v0 hm ou = m_X6_unwinds_h027 tx s26 fcd fhe 5 hm ou := by unfold m_X6_between_h027; rw [if_pos c_3]
        have q_46 : m_X6_between_cd tx s26 fcd fhe v0 hm ou = (m_X6_unwinds_cd tx s26 fcd fhe 5 hm ou) := by unfold m_X6_between_cd; rw [if_pos c_3]
        have q_47 : m_X6_between_he tx s26 fcd fhe v0 hm ou = fhe := by unfold m_X6_between_he; rw [if_pos c_3, if_neg c_23, if_pos c_35]
        have hz9 : gPD G A [zo6 h0 (nI pb) kd mo st (nI jg) ro tp (nI td) cd sr (nI tx) (nI ru) him ir ih ss sq ce lw s19 s20 s21 s22 wo he (nI (m_X6_between_h025 tx s26 fcd fhe v0 hm ou)) (m_X6_between_h026 tx s26 fcd fhe v0 hm ou) (nI (m_X6_between_h027 tx s26 fcd fhe v0 hm ou)) sk na kp s31 s32 s33 s34 gb go fa ga s39 s40 vo, zi G cd 1200 (m_X6_between_cd tx s26 fcd fhe v0 hm ou), zi G he 200 (m_X6_between_he tx s26 fcd fhe v0 hm ou)] H := ⟨by rw [q_43, q_44, q_45, q_46, q_47]; exact hP, by rw [q_43, q_44, q_45, q_46, q_47]; exact hD⟩
        have hP9 := hz9.1
        have hD9 := hz9.2
        have hpost : (fun (r : Int32) (u : Unit) => match u with | _ => r = m_X6_between tx s26 fcd fhe v0 hm ou) 0 () := (show m_X6_between tx s26 fcd fhe v0 hm ou = 0 from by unfold m_X6_between; rw [if_pos c_3, if_neg c_23, if_pos c_35]).symm
        exact W.zret (v := 0) hx hb hr (rfl) (fun t ht hW => ⟨⟨0, (), rfl, hpost, by rw [ht]; exact hP9, va_K.moved hW.alike hK, hD9⟩, hS.F ht⟩) hS.2.2 dX6_between_54
theorem rank_B {c : Int32} (h : isB c) : 1 ≤ m_X6_rank c := by rcases h with e | e | e | e | e | e | e <;> subst e <;> decide
theorem hold_B {fcd fhe : Nat → Int32} {tx sp ou hm : Nat} {c : Int32} (hb : isB c) (h : eI fcd fhe tx sp ou hm 0) : eI fcd (upd fhe hm c) tx sp ou (hm + 1) 1 := eI_hold h (Or.inr (Or.inr (Or.inr hb))) (by rw [if_pos (isBb_t hb)]; omega)
theorem hold_N {fcd fhe : Nat → Int32} {tx sp ou hm : Nat} {c : Int32} (hc : c = 0 ∨ c = 13 ∨ c = 19) (h : eI fcd fhe tx sp ou hm 1) : eI fcd (upd fhe hm c) tx sp ou (hm + 1) 1 := by
  refine eI_hold h ?_ ?_
  · rcases hc with e | e | e
    · exact Or.inl e
    · exact Or.inr (Or.inl e)
    · exact Or.inr (Or.inr (Or.inl e))
  · have e : ¬ isBb c = true := by rcases hc with e | e | e <;> subst e <;> decide
    rw [if_neg e]
    first | done | rfl
theorem bt_use {tx sp hm ou : Nat} {s26 : Int32} {fcd fhe : Nat → Int32} {v0 : Int32} (hb : isB v0) (h : eI fcd fhe tx sp ou hm 0) (hok : ¬ m_X6_between tx s26 fcd fhe v0 hm ou = 0) : eI (m_X6_between_cd tx s26 fcd fhe v0 hm ou) (m_X6_between_he tx s26 fcd fhe v0 hm ou) tx sp (m_X6_between_h027 tx s26 fcd fhe v0 hm ou) (m_X6_between_h025 tx s26 fcd fhe v0 hm ou) 1 ∧ m_X6_between_h027 tx s26 fcd fhe v0 hm ou + m_X6_between_h025 tx s26 fcd fhe v0 hm ou = ou + hm + 1 ∧ ∀ i, (i < 200 * tx + ou ∨ 200 * tx + 200 ≤ i) → ou + hm ≤ 200 → m_X6_between_cd tx s26 fcd fhe v0 hm ou i = fcd i := by
  unfold m_X6_between at hok
  unfold m_X6_between_cd m_X6_between_he m_X6_between_h027 m_X6_between_h025
  by_cases c : m_X6_rank v0 = 4
  · simp only [if_pos c] at hok ⊢
    have U := uw_use (s26 := s26) (v0 := 5) (by decide +kernel) h
    have F := uw_facts (tx := tx) (s26 := s26) (fcd := fcd) (fhe := fhe) (v0 := 5) (hm := hm) (ou := ou)
    by_cases c2 : (nI (m_X6_unwinds_h025 tx s26 fcd fhe 5 hm ou)) ≤ 0
    · simp only [if_pos c2] at hok ⊢
      exact ⟨hold_B hb U.1, by omega, U.2⟩
    · simp only [if_neg c2] at hok ⊢
      by_cases c3 : (m_X6_rank (fhe ((m_X6_unwinds_h025 tx s26 fcd fhe 5 hm ou) - 1))) = 4
      · simp only [if_pos c3] at hok
        exact absurd trivial hok
      · simp only [if_neg c3] at hok ⊢
        exact ⟨hold_B hb U.1, by omega, U.2⟩
  · simp only [if_neg c]
    have U := uw_use (s26 := s26) (v0 := m_X6_rank v0) (rank_B hb) h
    have F := uw_facts (tx := tx) (s26 := s26) (fcd := fcd) (fhe := fhe) (v0 := m_X6_rank v0) (hm := hm) (ou := ou)
    exact ⟨hold_B hb U.1, by omega, U.2⟩
theorem bt_any {tx sp hm ou : Nat} {s26 : Int32} {fcd fhe : Nat → Int32} {v0 : Int32} (hb : isB v0) (h : eI fcd fhe tx sp ou hm 0) : (ou ≤ m_X6_between_h027 tx s26 fcd fhe v0 hm ou ∧ m_X6_between_h027 tx s26 fcd fhe v0 hm ou ≤ ou + hm) ∧ ∀ i, (i < 200 * tx + ou ∨ 200 * tx + 200 ≤ i) → ou + hm ≤ 200 → m_X6_between_cd tx s26 fcd fhe v0 hm ou i = fcd i := by
  unfold m_X6_between_cd m_X6_between_h027
  by_cases c : m_X6_rank v0 = 4
  · simp only [if_pos c]
    have U := uw_use (s26 := s26) (v0 := 5) (by decide +kernel) h
    have F := uw_facts (tx := tx) (s26 := s26) (fcd := fcd) (fhe := fhe) (v0 := 5) (hm := hm) (ou := ou)
    exact ⟨by omega, U.2⟩
  · simp only [if_neg c]
    have U := uw_use (s26 := s26) (v0 := m_X6_rank v0) (rank_B hb) h
    have F := uw_facts (tx := tx) (s26 := s26) (fcd := fcd) (fhe := fhe) (v0 := m_X6_rank v0) (hm := hm) (ou := ou)
    exact ⟨by omega, U.2⟩
noncomputable def eRun (tx td : Nat) (ftp fwo : Nat → Int32) : Nat → Nat → Nat → Nat → Int32 → (Nat → Int32) → (Nat → Int32) → Int32 → Int32 → Option (Bool × Nat × Nat × Int32 × (Nat → Int32) × (Nat → Int32))
  | 0, _, _, _, _, _, _, _, _ => none
  | q9 + 1, za1, hm1, ou1, op1, yc, yh, wv, mn => if wv = 0 then (if (m_X6_next_h021 td ftp fwo za1) = 59 then (if (nI (m_X6_unwinds_h025 tx op1 yc yh 1 hm1 ou1)) = 0 then some (true, (m_X6_next_h019 td ftp za1), (m_X6_unwinds_h027 tx op1 yc yh 1 hm1 ou1), (m_X6_next_h020 td ftp za1), (m_X6_unwinds_cd tx op1 yc yh 1 hm1 ou1), yh) else some (false, (m_X6_next_h019 td ftp za1), (m_X6_unwinds_h027 tx op1 yc yh 1 hm1 ou1), (m_X6_next_h020 td ftp za1), (m_X6_unwinds_cd tx op1 yc yh 1 hm1 ou1), yh)) else (if (m_X6_next_h021 td ftp fwo za1) = 41 then (if (nI (m_X6_unwinds_h025 tx op1 yc yh 1 hm1 ou1)) = 0 then some (false, (m_X6_next_h019 td ftp za1), (m_X6_unwinds_h027 tx op1 yc yh 1 hm1 ou1), (m_X6_next_h020 td ftp za1), (m_X6_unwinds_cd tx op1 yc yh 1 hm1 ou1), yh) else eRun tx td ftp fwo q9 (m_X6_next_h019 td ftp za1) (m_X6_unwinds_h025 tx ((m_X6_unwinds_h026 tx op1 yc yh 1 hm1 ou1) - 1) (m_X6_unwinds_cd tx op1 yc yh 1 hm1 ou1) yh 7 ((m_X6_unwinds_h025 tx op1 yc yh 1 hm1 ou1) - 1) (m_X6_unwinds_h027 tx op1 yc yh 1 hm1 ou1)) (m_X6_unwinds_h027 tx ((m_X6_unwinds_h026 tx op1 yc yh 1 hm1 ou1) - 1) (m_X6_unwinds_cd tx op1 yc yh 1 hm1 ou1) yh 7 ((m_X6_unwinds_h025 tx op1 yc yh 1 hm1 ou1) - 1) (m_X6_unwinds_h027 tx op1 yc yh 1 hm1 ou1)) (m_X6_unwinds_h026 tx ((m_X6_unwinds_h026 tx op1 yc yh 1 hm1 ou1) - 1) (m_X6_unwinds_cd tx op1 yc yh 1 hm1 ou1) yh 7 ((m_X6_unwinds_h025 tx op1 yc yh 1 hm1 ou1) - 1) (m_X6_unwinds_h027 tx op1 yc yh 1 hm1 ou1)) (m_X6_unwinds_cd tx ((m_X6_unwinds_h026 tx op1 yc yh 1 hm1 ou1) - 1) (m_X6_unwinds_cd tx op1 yc yh 1 hm1 ou1) yh 7 ((m_X6_unwinds_h025 tx op1 yc yh 1 hm1 ou1) - 1) (m_X6_unwinds_h027 tx op1 yc yh 1 hm1 ou1)) yh wv mn) else (if (m_X6_signOf (m_X6_next_h021 td ftp fwo za1)) = (-1) then some (false, (m_X6_next_h019 td ftp za1), ou1, (m_X6_next_h020 td ftp za1), yc, yh) else (if (m_X6_between tx op1 yc yh (m_X6_signOf (m_X6_next_h021 td ftp fwo za1)) hm1 ou1) = 0 then some (false, (m_X6_next_h019 td ftp za1), (m_X6_between_h027 tx op1 yc yh (m_X6_signOf (m_X6_next_h021 td ftp fwo za1)) hm1 ou1), (m_X6_next_h020 td ftp za1), (m_X6_between_cd tx op1 yc yh (m_X6_signOf (m_X6_next_h021 td ftp fwo za1)) hm1 ou1), (m_X6_between_he tx op1 yc yh (m_X6_signOf (m_X6_next_h021 td ftp fwo za1)) hm1 ou1)) else (if 12 < (m_X6_signOf (m_X6_next_h021 td ftp fwo za1)) then eRun tx td ftp fwo q9 (m_X6_next_h019 td ftp za1) (m_X6_between_h025 tx op1 yc yh (m_X6_signOf (m_X6_next_h021 td ftp fwo za1)) hm1 ou1) (m_X6_between_h027 tx op1 yc yh (m_X6_signOf (m_X6_next_h021 td ftp fwo za1)) hm1 ou1) (m_X6_between_h026 tx op1 yc yh (m_X6_signOf (m_X6_next_h021 td ftp fwo za1)) hm1 ou1) (m_X6_between_cd tx op1 yc yh (m_X6_signOf (m_X6_next_h021 td ftp fwo za1)) hm1 ou1) (m_X6_between_he tx op1 yc yh (m_X6_signOf (m_X6_next_h021 td ftp fwo za1)) hm1 ou1) 1 0 else eRun tx td ftp fwo q9 (m_X6_next_h019 td ftp za1) (m_X6_between_h025 tx op1 yc yh (m_X6_signOf (m_X6_next_h021 td ftp fwo za1)) hm1 ou1) (m_X6_between_h027 tx op1 yc yh (m_X6_signOf (m_X6_next_h021 td ftp fwo za1)) hm1 ou1) (m_X6_between_h026 tx op1 yc yh (m_X6_signOf (m_X6_next_h021 td ftp fwo za1)) hm1 ou1) (m_X6_between_cd tx op1 yc yh (m_X6_signOf (m_X6_next_h021 td ftp fwo za1)) hm1 ou1) (m_X6_between_he tx op1 yc yh (m_X6_signOf (m_X6_next_h021 td ftp fwo za1)) hm1 ou1) 1 1))))) else (if (m_X6_next_h021 td ftp fwo za1) = 1 then eRun tx td ftp fwo q9 (m_X6_next_h019 td ftp za1) (m_X6_unwinds_h025 tx op1 (upd yc ((200 * tx) + ou1) (100000 + (m_X6_next_h022 td ftp fwo za1))) yh 7 hm1 ((ou1 + 1))) (m_X6_unwinds_h027 tx op1 (upd yc ((200 * tx) + ou1) (100000 + (m_X6_next_h022 td ftp fwo za1))) yh 7 hm1 ((ou1 + 1))) (m_X6_unwinds_h026 tx op1 (upd yc ((200 * tx) + ou1) (100000 + (m_X6_next_h022 td ftp fwo za1))) yh 7 hm1 ((ou1 + 1))) (m_X6_unwinds_cd tx op1 (upd yc ((200 * tx) + ou1) (100000 + (m_X6_next_h022 td ftp fwo za1))) yh 7 hm1 ((ou1 + 1))) yh 0 mn else (if (m_X6_next_h021 td ftp fwo za1) = 2 then eRun tx td ftp fwo q9 (m_X6_next_h019 td ftp za1) (m_X6_unwinds_h025 tx op1 (upd yc ((200 * tx) + ou1) (m_X6_next_h022 td ftp fwo za1)) yh 7 hm1 ((ou1 + 1))) (m_X6_unwinds_h027 tx op1 (upd yc ((200 * tx) + ou1) (m_X6_next_h022 td ftp fwo za1)) yh 7 hm1 ((ou1 + 1))) (m_X6_unwinds_h026 tx op1 (upd yc ((200 * tx) + ou1) (m_X6_next_h022 td ftp fwo za1)) yh 7 hm1 ((ou1 + 1))) (m_X6_unwinds_cd tx op1 (upd yc ((200 * tx) + ou1) (m_X6_next_h022 td ftp fwo za1)) yh 7 hm1 ((ou1 + 1))) yh 0 mn else (if (m_X6_next_h021 td ftp fwo za1) = 6 then (if mn = 0 then (if (m_X6_next_h021 td ftp fwo za1) = 45 then (if (m_X6_opensOne op1) = 0 then some (false, (m_X6_next_h019 td ftp za1), ou1, (m_X6_next_h020 td ftp za1), yc, (m_X6_opensOne_he op1 yh 19 hm1)) else eRun tx td ftp fwo q9 (m_X6_next_h019 td ftp za1) (m_X6_opensOne_h025 op1 hm1) ou1 (m_X6_opensOne_h026 op1) yc (m_X6_opensOne_he op1 yh 19 hm1) wv 0) else (if (m_X6_next_h021 td ftp fwo za1) = 40 then (if (m_X6_opensOne op1) = 0 then some (false, (m_X6_next_h019 td ftp za1), ou1, (m_X6_next_h020 td ftp za1), yc, (m_X6_opensOne_he op1 yh 0 hm1)) else eRun tx td ftp fwo q9 (m_X6_next_h019 td ftp za1) (m_X6_opensOne_h025 op1 hm1) ou1 (m_X6_opensOne_h026 op1) yc (m_X6_opensOne_he op1 yh 0 hm1) wv 1) else some (false, (m_X6_next_h019 td ftp za1), ou1, (m_X6_next_h020 td ftp za1), yc, yh))) else (if (m_X6_opensOne op1) = 0 then some (false, (m_X6_next_h019 td ftp za1), ou1, (m_X6_next_h020 td ftp za1), yc, (m_X6_opensOne_he op1 yh 13 hm1)) else eRun tx td ftp fwo q9 (m_X6_next_h019 td ftp za1) (m_X6_opensOne_h025 op1 hm1) ou1 (m_X6_opensOne_h026 op1) yc (m_X6_opensOne_he op1 yh 13 hm1) wv mn)) else (if (m_X6_next_h021 td ftp fwo za1) = 45 then (if (m_X6_opensOne op1) = 0 then some (false, (m_X6_next_h019 td ftp za1), ou1, (m_X6_next_h020 td ftp za1), yc, (m_X6_opensOne_he op1 yh 19 hm1)) else eRun tx td ftp fwo q9 (m_X6_next_h019 td ftp za1) (m_X6_opensOne_h025 op1 hm1) ou1 (m_X6_opensOne_h026 op1) yc (m_X6_opensOne_he op1 yh 19 hm1) wv 0) else (if (m_X6_next_h021 td ftp fwo za1) = 40 then (if (m_X6_opensOne op1) = 0 then some (false, (m_X6_next_h019 td ftp za1), ou1, (m_X6_next_h020 td ftp za1), yc, (m_X6_opensOne_he op1 yh 0 hm1)) else eRun tx td ftp fwo q9 (m_X6_next_h019 td ftp za1) (m_X6_opensOne_h025 op1 hm1) ou1 (m_X6_opensOne_h026 op1) yc (m_X6_opensOne_he op1 yh 0 hm1) wv 1) else some (false, (m_X6_next_h019 td ftp za1), ou1, (m_X6_next_h020 td ftp za1), yc, yh))))))
theorem eRun_s {tx td : Nat} {ftp fwo : Nat → Int32} {x : Bool × Nat × Nat × Int32 × (Nat → Int32) × (Nat → Int32)} : ∀ (n za1 hm1 ou1 : Nat) (op1 : Int32) (yc yh : Nat → Int32) (wv mn : Int32), eRun tx td ftp fwo n za1 hm1 ou1 op1 yc yh wv mn = some x → eRun tx td ftp fwo (n + 1) za1 hm1 ou1 op1 yc yh wv mn = some x
  | 0, _, _, _, _, _, _, _, _, h => by rw [eRun] at h; cases h
  | q9 + 1, za1, hm1, ou1, op1, yc, yh, wv, mn, h => by
    rw [eRun] at h ⊢
    by_cases c2 : wv = 0
    · rw [if_pos c2] at h ⊢
      by_cases c3 : (m_X6_next_h021 td ftp fwo za1) = 59
      · rw [if_pos c3] at h ⊢
        by_cases c4 : (nI (m_X6_unwinds_h025 tx op1 yc yh 1 hm1 ou1)) = 0
        · rw [if_pos c4] at h ⊢
          exact h
        · rw [if_neg c4] at h ⊢
          exact h
      · rw [if_neg c3] at h ⊢
        by_cases c4 : (m_X6_next_h021 td ftp fwo za1) = 41
        · rw [if_pos c4] at h ⊢
          by_cases c5 : (nI (m_X6_unwinds_h025 tx op1 yc yh 1 hm1 ou1)) = 0
          · rw [if_pos c5] at h ⊢
            exact h
          · rw [if_neg c5] at h ⊢
            exact eRun_s q9 _ _ _ _ _ _ _ _ h
        · rw [if_neg c4] at h ⊢
          by_cases c5 : (m_X6_signOf (m_X6_next_h021 td ftp fwo za1)) = (-1)
          · rw [if_pos c5] at h ⊢
            exact h
          · rw [if_neg c5] at h ⊢
            by_cases c6 : (m_X6_between tx op1 yc yh (m_X6_signOf (m_X6_next_h021 td ftp fwo za1)) hm1 ou1) = 0
            · rw [if_pos c6] at h ⊢
              exact h
            · rw [if_neg c6] at h ⊢
              by_cases c7 : 12 < (m_X6_signOf (m_X6_next_h021 td ftp fwo za1))
              · rw [if_pos c7] at h ⊢
                exact eRun_s q9 _ _ _ _ _ _ _ _ h
              · rw [if_neg c7] at h ⊢
                exact eRun_s q9 _ _ _ _ _ _ _ _ h
    · rw [if_neg c2] at h ⊢
      by_cases c3 : (m_X6_next_h021 td ftp fwo za1) = 1
      · rw [if_pos c3] at h ⊢
        exact eRun_s q9 _ _ _ _ _ _ _ _ h
      · rw [if_neg c3] at h ⊢
        by_cases c4 : (m_X6_next_h021 td ftp fwo za1) = 2
        · rw [if_pos c4] at h ⊢
          exact eRun_s q9 _ _ _ _ _ _ _ _ h
        · rw [if_neg c4] at h ⊢
          by_cases c5 : (m_X6_next_h021 td ftp fwo za1) = 6
          · rw [if_pos c5] at h ⊢
            by_cases c6 : mn = 0
            · rw [if_pos c6] at h ⊢
              by_cases c7 : (m_X6_next_h021 td ftp fwo za1) = 45
              · rw [if_pos c7] at h ⊢
                by_cases c8 : (m_X6_opensOne op1) = 0
                · rw [if_pos c8] at h ⊢
                  exact h
                · rw [if_neg c8] at h ⊢
                  exact eRun_s q9 _ _ _ _ _ _ _ _ h
              · rw [if_neg c7] at h ⊢
                by_cases c8 : (m_X6_next_h021 td ftp fwo za1) = 40
                · rw [if_pos c8] at h ⊢
                  by_cases c9 : (m_X6_opensOne op1) = 0
                  · rw [if_pos c9] at h ⊢
                    exact h
                  · rw [if_neg c9] at h ⊢
                    exact eRun_s q9 _ _ _ _ _ _ _ _ h
                · rw [if_neg c8] at h ⊢
                  exact h
            · rw [if_neg c6] at h ⊢
              by_cases c7 : (m_X6_opensOne op1) = 0
              · rw [if_pos c7] at h ⊢
                exact h
              · rw [if_neg c7] at h ⊢
                exact eRun_s q9 _ _ _ _ _ _ _ _ h
          · rw [if_neg c5] at h ⊢
            by_cases c6 : (m_X6_next_h021 td ftp fwo za1) = 45
            · rw [if_pos c6] at h ⊢
              by_cases c7 : (m_X6_opensOne op1) = 0
              · rw [if_pos c7] at h ⊢
                exact h
              · rw [if_neg c7] at h ⊢
                exact eRun_s q9 _ _ _ _ _ _ _ _ h
            · rw [if_neg c6] at h ⊢
              by_cases c7 : (m_X6_next_h021 td ftp fwo za1) = 40
              · rw [if_pos c7] at h ⊢
                by_cases c8 : (m_X6_opensOne op1) = 0
                · rw [if_pos c8] at h ⊢
                  exact h
                · rw [if_neg c8] at h ⊢
                  exact eRun_s q9 _ _ _ _ _ _ _ _ h
              · rw [if_neg c7] at h ⊢
                exact h
theorem eRun_m {tx td : Nat} {ftp fwo : Nat → Int32} {x : Bool × Nat × Nat × Int32 × (Nat → Int32) × (Nat → Int32)} {za hm ou : Nat} {op : Int32} {yc yh : Nat → Int32} {wv mn : Int32} {n : Nat} (h : eRun tx td ftp fwo n za hm ou op yc yh wv mn = some x) : ∀ k : Nat, eRun tx td ftp fwo (n + k) za hm ou op yc yh wv mn = some x
  | 0 => h
  | k + 1 => eRun_s _ _ _ _ _ _ _ _ _ (eRun_m h k)
theorem eRun_1 {tx td : Nat} {ftp fwo : Nat → Int32} {x y : Bool × Nat × Nat × Int32 × (Nat → Int32) × (Nat → Int32)} {za hm ou : Nat} {op : Int32} {yc yh : Nat → Int32} {wv mn : Int32} {n k : Nat} (h : eRun tx td ftp fwo n za hm ou op yc yh wv mn = some x) (h2 : eRun tx td ftp fwo k za hm ou op yc yh wv mn = some y) : x = y := by
  have a := eRun_m h k
  have b := eRun_m h2 n
  rw [Nat.add_comm] at b
  rw [a] at b
  exact Option.some.inj b

abbrev q_X6_eRead (G : gG) (h0 kd mo st ro tp cd sr ir ih ss sq ce lw wo he sk na kp gb go fa ga vo : Nat) (pb : Nat) (jg : Nat) (td : Nat) (tx : Nat) (ru : Nat) (him : Int32) (s20 : Int32) (s21 : Int32) (s22 : Int32) (s25 : Int32) (s26 : Int32) (s31 : Int32) (s32 : Int32) (s33 : Int32) (s34 : Int32) (s39 : Int32) (s40 : Int32) (fcd : Nat → Int32) (fhe : Nat → Int32) (ftp : Nat → Int32) (fwo : Nat → Int32) (za : Nat) (ou : Nat) (A : Nat → Prop) : Array Value → State → Outcome → State → Prop := va_Qi (fun (r : Int32) (u : Nat × Nat × Int32 × Int32 × Int32 × Int32 × Int32 × (Nat → Int32) × (Nat → Int32)) => match u with | (zza, zou, zhm, zop, zb, zt, zv, ycd, yhe) => (r = 0 ∨ r = 1) ∧ (r = 1 → dp (eF ycd tx) ou (zou - ou) = some 1) ∧ zza ≤ td ∧ zou + 1 ≤ zza ∧ ou ≤ zou ∧ (∀ i, (i < 200 * tx + ou ∨ 200 * tx + 200 ≤ i) → ycd i = fcd i) ∧ ∃ j9 b9, eRun tx td ftp fwo j9 za 0 ou 0 fcd fhe 1 1 = some (b9, zza, zou, zb, ycd, yhe) ∧ r = bz b9) (fun (u : Nat × Nat × Int32 × Int32 × Int32 × Int32 × Int32 × (Nat → Int32) × (Nat → Int32)) t => match u with | (zza, zou, zhm, zop, zb, zt, zv, ycd, yhe) => va_P G.1 vwCl [zo6 h0 (nI pb) kd mo st (nI jg) ro tp (nI td) cd sr (nI tx) (nI ru) him ir ih ss sq ce lw (nI zza) zb zt zv wo he zhm zop (nI zou) sk na kp s31 s32 s33 s34 gb go fa ga s39 s40 vo, zi G cd 1200 ycd, zi G he 200 yhe, zi G tp 160 ftp, zi G wo 96 fwo] t.heap ∧ gK G t ∧ va_D A [zo6 h0 (nI pb) kd mo st (nI jg) ro tp (nI td) cd sr (nI tx) (nI ru) him ir ih ss sq ce lw (nI zza) zb zt zv wo he zhm zop (nI zou) sk na kp s31 s32 s33 s34 gb go fa ga s39 s40 vo, zi G cd 1200 ycd, zi G he 200 yhe, zi G tp 160 ftp, zi G wo 96 fwo]) A
set_option maxHeartbeats 4000000 in
set_option maxRecDepth 100000 in
theorem c_X6_eRead (l : Launch) (G : gG) (h0 kd mo st ro tp cd sr ir ih ss sq ce lw wo he sk na kp gb go fa ga vo : Nat) (pb : Nat) (jg : Nat) (td : Nat) (tx : Nat) (ru : Nat) (him : Int32) (s20 : Int32) (s21 : Int32) (s22 : Int32) (s25 : Int32) (s26 : Int32) (s31 : Int32) (s32 : Int32) (s33 : Int32) (s34 : Int32) (s39 : Int32) (s40 : Int32) (fcd : Nat → Int32) (fhe : Nat → Int32) (ftp : Nat → Int32) (fwo : Nat → Int32) (za : Nat) (ou : Nat) (sz : Nat) (htd : td ≤ 160) (hza : za ≤ td ∧ ou + 1 ≤ za) (htx : tx < 6) : Met l yX6_eRead wsX6_eRead ({ frames := 3, cells := 0, slots := 0, locals := 64 }) (gPre G [.ref h0] [zo6 h0 (nI pb) kd mo st (nI jg) ro tp (nI td) cd sr (nI tx) (nI ru) him ir ih ss sq ce lw (nI za) s20 s21 s22 wo he s25 s26 (nI ou) sk na kp s31 s32 s33 s34 gb go fa ga s39 s40 vo, zi G cd 1200 fcd, zi G he 200 fhe, zi G tp 160 ftp, zi G wo 96 fwo] sz) (q_X6_eRead G h0 kd mo st ro tp cd sr ir ih ss sq ce lw wo he sk na kp gb go fa ga vo pb jg td tx ru him s20 s21 s22 s25 s26 s31 s32 s33 s34 s39 s40 fcd fhe ftp fwo za ou (va_A [zo6 h0 (nI pb) kd mo st (nI jg) ro tp (nI td) cd sr (nI tx) (nI ru) him ir ih ss sq ce lw (nI za) s20 s21 s22 wo he s25 s26 (nI ou) sk na kp s31 s32 s33 s34 gb go fa ga s39 s40 vo, zi G cd 1200 fcd, zi G he 200 fhe, zi G tp 160 ftp, zi G wo 96 fwo] sz)) 0 0 (va_A [zo6 h0 (nI pb) kd mo st (nI jg) ro tp (nI td) cd sr (nI tx) (nI ru) him ir ih ss sq ce lw (nI za) s20 s21 s22 wo he s25 s26 (nI ou) sk na kp s31 s32 s33 s34 gb go fa ga s39 s40 vo, zi G cd 1200 fcd, zi G he 200 fhe, zi G tp 160 ftp, zi G wo 96 fwo] sz) := by
  refine Met.ofW (cc := cX6_eRead) (maxL := 4) (ret := (some .boolean)) (by decide +kernel) rfl ?_
  intro p e s m args below meth c s₁ B hml hv
  obtain ⟨rfl, hsz, hP, hK, hD0⟩ := hv
  have hx := B.exec
  have hb := B.bytes
  have hr := B.returns
  have hts := atoms_spec (ws := wsX6_eRead) B.pre
  have hown : s.vm.findClass RX6 = some m.cls := findClass_of_methodNamed B.named
  have hlocks := B.notSynchronized
  subst hsz
  have hD := hD0.self (sz := s.heap.size)
  generalize hAe : va_A [zo6 h0 (nI pb) kd mo st (nI jg) ro tp (nI td) cd sr (nI tx) (nI ru) him ir ih ss sq ce lw (nI za) s20 s21 s22 wo he s25 s26 (nI ou) sk na kp s31 s32 s33 s34 gb go fa ga s39 s40 vo, zi G cd 1200 fcd, zi G he 200 fhe, zi G tp 160 ftp, zi G wo 96 fwo] s.heap.size = A at hD ⊢
  have hA : ∀ q : Nat, s.heap.size ≤ q → A q := fun q h => by rw [← hAe]; exact Or.inr h
  have hS : va_S A s.heap s.heap [] := va_S.rf
  have hz9 : gPD G A [zo6 h0 (nI pb) kd mo st (nI jg) ro tp (nI td) cd sr (nI tx) (nI ru) him ir ih ss sq ce lw (nI za) s20 s21 s22 wo he s25 s26 (nI ou) sk na kp s31 s32 s33 s34 gb go fa ga s39 s40 vo, zi G cd 1200 fcd, zi G he 200 fhe, zi G tp 160 ftp, zi G wo 96 fwo] s.heap := ⟨hP, hD⟩
  have hP := hz9.1
  have hD := hz9.2
  have hl := lv_entry ([.ref h0]) (n := 4) (Nat.le_of_ble_eq_true rfl)
  rw [lg_entry_eq]
  generalize (lg_sl ([.ref h0]) ++ List.replicate (4 - (lg_sl ([.ref h0])).length) Slot.unset).toArray = ls at hl ⊢
  have hl : lv_has ls 4 [zR 0 h0] := hl
  have kf130 := hts (.fieldLink RX6 130 "PebbleInShoeModel" "heldMany" "I") (by decide +kernel)
  have hiX6 := (by decide +kernel : ∀ w ∈ wsX60, w ∈ wsX6_eRead)
  have kf137 := hts (.fieldLink RX6 137 "PebbleInShoeModel" "opens" "I") (by decide +kernel)
  have kf117 := hts (.fieldLink RX6 117 "PebbleInShoeModel" "token" "I") (by decide +kernel)
  have kf120 := hts (.fieldLink RX6 120 "PebbleInShoeModel" "value" "I") (by decide +kernel)
  refine lv_aload_n hx hb dX6_eRead_0 rfl (lv_at hl 0 rfl) ?_
  refine lv_iconst (v := 0) hx hb dX6_eRead_1 (by decide +kernel) ?_
  refine va_put (D := G.1) (ci := 6) (v := .int 0) (ty := .int) (C := RX6) (T := TX6) (N := 42) hx hb hts hiX6 tyX6 tyX6_ok nmX6 hown hK hP hD hS 0 rfl rfl 25 (by decide +kernel) kf130 (fun _ h9 => h9) rfl (by decide +kernel) rfl rfl (Nat.le_of_ble_eq_true rfl) dX6_eRead_2 (fun H locs hP hD hS => ?_)
  have hz9 : gPD G A [zo6 h0 (nI pb) kd mo st (nI jg) ro tp (nI td) cd sr (nI tx) (nI ru) him ir ih ss sq ce lw (nI za) s20 s21 s22 wo he 0 s26 (nI ou) sk na kp s31 s32 s33 s34 gb go fa ga s39 s40 vo, zi G cd 1200 fcd, zi G he 200 fhe, zi G tp 160 ftp, zi G wo 96 fwo] H := ⟨hP, hD⟩
  have hP := hz9.1
  have hD := hz9.2
  refine lv_aload_n hx hb dX6_eRead_5 rfl (lv_at hl 0 rfl) ?_
  refine lv_iconst (v := 0) hx hb dX6_eRead_6 (by decide +kernel) ?_
  refine va_put (D := G.1) (ci := 6) (v := .int 0) (ty := .int) (C := RX6) (T := TX6) (N := 42) hx hb hts hiX6 tyX6 tyX6_ok nmX6 hown hK hP hD hS 0 rfl rfl 26 (by decide +kernel) kf137 (fun _ h9 => h9) rfl (by decide +kernel) rfl rfl (Nat.le_of_ble_eq_true rfl) dX6_eRead_7 (fun H locs hP hD hS => ?_)
  have hz9 : gPD G A [zo6 h0 (nI pb) kd mo st (nI jg) ro tp (nI td) cd sr (nI tx) (nI ru) him ir ih ss sq ce lw (nI za) s20 s21 s22 wo he 0 0 (nI ou) sk na kp s31 s32 s33 s34 gb go fa ga s39 s40 vo, zi G cd 1200 fcd, zi G he 200 fhe, zi G tp 160 ftp, zi G wo 96 fwo] H := ⟨hP, hD⟩
  have hP := hz9.1
  have hD := hz9.2
  refine lv_iconst (v := 1) hx hb dX6_eRead_10 (by decide +kernel) ?_
  refine lv_istore_n (lv' := [zI 1 1, zR 0 h0]) hx hb dX6_eRead_11 rfl hl (by decide +kernel) rfl (fun ls hl => ?_)
  refine lv_iconst (v := 1) hx hb dX6_eRead_12 (by decide +kernel) ?_
  refine lv_istore_n (lv' := [zI 2 1, zI 1 1, zR 0 h0]) hx hb dX6_eRead_13 rfl hl (by decide +kernel) rfl (fun ls hl => ?_)
  have loop_14 : ∀ (n9 : Nat) (za1 : Nat) (hm1 : Nat) (ou1 : Nat) (op1 : Int32) (b1 : Int32) (t1 : Int32) (v1 : Int32) (yc : Nat → Int32) (yh : Nat → Int32) (wv : Int32) (mn : Int32) (j9 : Nat), (za1 ≤ td ∧ ou1 + hm1 + 1 ≤ za1) → (ou ≤ ou1) → ((wv = 1 ∧ eI yc yh tx ou ou1 hm1 1) ∨ (wv = 0 ∧ eI yc yh tx ou ou1 hm1 0)) → ((∀ i, (i < 200 * tx + ou ∨ 200 * tx + 200 ≤ i) → yc i = fcd i)) → (∀ q, eRun tx td ftp fwo (q + j9) za 0 ou 0 fcd fhe 1 1 = eRun tx td ftp fwo q za1 hm1 ou1 op1 yc yh wv mn) → (td - za1) < n9 → ∀ (H : Heap) (locs : List Loc), va_P G.1 vwCl [zo6 h0 (nI pb) kd mo st (nI jg) ro tp (nI td) cd sr (nI tx) (nI ru) him ir ih ss sq ce lw (nI za1) b1 t1 v1 wo he (nI hm1) op1 (nI ou1) sk na kp s31 s32 s33 s34 gb go fa ga s39 s40 vo, zi G cd 1200 yc, zi G he 200 yh, zi G tp 160 ftp, zi G wo 96 fwo] H → va_D A [zo6 h0 (nI pb) kd mo st (nI jg) ro tp (nI td) cd sr (nI tx) (nI ru) him ir ih ss sq ce lw (nI za1) b1 t1 v1 wo he (nI hm1) op1 (nI ou1) sk na kp s31 s32 s33 s34 gb go fa ga s39 s40 vo, zi G cd 1200 yc, zi G he 200 yh, zi G tp 160 ftp, zi G wo 96 fwo] → va_S A s.heap H locs → ∀ ls : Array Slot, lv_has ls 4 [zR 0 h0, zI 1 wv, zI 2 mn] → W p l e (headSpec wsX6_eRead ({ frames := 3, cells := 0, slots := 0, locals := 64 })).room s m ([.ref h0] : List Value).toArray below meth c H locs 0 0 (MQ below (q_X6_eRead G h0 kd mo st ro tp cd sr ir ih ss sq ce lw wo he sk na kp gb go fa ga vo pb jg td tx ru him s20 s21 s22 s25 s26 s31 s32 s33 s34 s39 s40 fcd fhe ftp fwo za ou A) ([.ref h0] : List Value).toArray s 0 0 A) (F0 m 14 ls []) := by
    intro n9
    induction n9 with
    | zero => intro za1 hm1 ou1 op1 b1 t1 v1 yc yh wv mn j9 hz ho hI hu hF hm9; exact absurd hm9 (Nat.not_lt_zero _)
    | succ n9 ih9 =>
      intro za1 hm1 ou1 op1 b1 t1 v1 yc yh wv mn j9 hz ho hI hu hF hm9 H locs hP hD hS ls hl
      refine lv_aload_n hx hb dX6_eRead_14 rfl (lv_at hl 0 rfl) ?_
      refine z_callv [0, 3, 4] (va_runV (As := []) (rest := []) ⟨hx, hb, hml, hown, hts⟩ (c_X6_next l G h0 kd mo st ro tp cd sr ir ih ss sq ce lw wo he sk na kp gb go fa ga vo pb jg td tx ru him b1 t1 v1 (nI hm1) op1 (nI ou1) s31 s32 s33 s34 s39 s40 ftp fwo za1 H.size (htd) (by omega)) (cwV 0 hts gX6_eRead_X6_next rfl rfl rfl (by decide +kernel) ⟨Nat.le_of_ble_eq_true rfl, Nat.le_of_ble_eq_true rfl⟩) ⟨gPre_blind, va_recv (q := (RX6, TX6, 42)) hK hP (ci := 6) (q0 := 0) rfl rfl, fun U hU hW => gPre_ofF [0, 3, 4] hU hW hK hP hD (by decide +kernel) rfl⟩ rfl rfl hl.1 rfl (lv_room (Nat.le_of_ble_eq_true rfl)) dX6_eRead_15 ⟨Nat.le_of_ble_eq_true rfl, Nat.le_of_ble_eq_true rfl⟩) hS hD hA rfl (fun u t H locs ht hvm w_2 hB hz1 hk1 hFq hAq hS => ?_)
      obtain ⟨hP1, hK1, hD1⟩ := hB
      have w_2 : za1 ≤ (m_X6_next_h019 td ftp za1) ∧ (m_X6_next_h019 td ftp za1) ≤ td ∧ (¬ (m_X6_next_h021 td ftp fwo za1) = 0 → za1 < (m_X6_next_h019 td ftp za1)) ∧ ((m_X6_next_h021 td ftp fwo za1) = 2 → 0 ≤ (m_X6_next_h022 td ftp fwo za1) ∧ (m_X6_next_h022 td ftp fwo za1) < 6) ∧ ((m_X6_next_h021 td ftp fwo za1) = 1 → 100000 ≤ 100000 + (m_X6_next_h022 td ftp fwo za1)) := w_2
      have hz9 : gPD G A [zo6 h0 (nI pb) kd mo st (nI jg) ro tp (nI td) cd sr (nI tx) (nI ru) him ir ih ss sq ce lw (nI (m_X6_next_h019 td ftp za1)) (m_X6_next_h020 td ftp za1) (m_X6_next_h021 td ftp fwo za1) (m_X6_next_h022 td ftp fwo za1) wo he (nI hm1) op1 (nI ou1) sk na kp s31 s32 s33 s34 gb go fa ga s39 s40 vo, zi G cd 1200 yc, zi G he 200 yh, zi G tp 160 ftp, zi G wo 96 fwo] H := zFill hP hD [0, 3, 4] [1, 0, 0, 2, 3] hAq hk1 hFq ht hP1 hD1 rfl (by decide +kernel)
      have hP := hz9.1
      have hD := hz9.2
      have hnx := w_2
      obtain ⟨hn1, hn2, hn3, hn4, hn5⟩ := hnx
      refine lv_iload_n hx hb dX6_eRead_18 rfl (lv_at hl 1 rfl) ?_
      refine lv_if_eq (tgt := 150) hx hb dX6_eRead_19 (by decide +kernel) (fun c_3 => ?_) (fun c_3 => ?_)
      · skip
        have hI0 := eI_w0 hI c_3
        have hw0 := c_3
        refine g_aget (D := G.1) (ci := 6) (v := .int (m_X6_next_h021 td ftp fwo za1)) (C := RX6) (T := TX6) (N := 42) hx hb dX6_eRead_150 rfl (lv_at hl 0 rfl) hts hiX6 hown hK hP 0 rfl rfl 21 (by decide +kernel) kf117 (fun _ h9 => h9) rfl dX6_eRead_151 ?_
        refine lv_bipush (v := 59) hx hb dX6_eRead_154 (by decide +kernel) ?_
        refine lv_icmp_ne (tgt := 177) hx hb dX6_eRead_156 (by decide +kernel) (fun c_4 => ?_) (fun c_4 => ?_)
        · skip
          refine g_aget (D := G.1) (ci := 6) (v := .int (m_X6_next_h021 td ftp fwo za1)) (C := RX6) (T := TX6) (N := 42) hx hb dX6_eRead_177 rfl (lv_at hl 0 rfl) hts hiX6 hown hK hP 0 rfl rfl 21 (by decide +kernel) kf117 (fun _ h9 => h9) rfl dX6_eRead_178 ?_
          refine lv_bipush (v := 41) hx hb dX6_eRead_181 (by decide +kernel) ?_
          refine lv_icmp_ne (tgt := 229) hx hb dX6_eRead_183 (by decide +kernel) (fun c_5 => ?_) (fun c_5 => ?_)
          · skip
            refine lv_aload_n hx hb dX6_eRead_229 rfl (lv_at hl 0 rfl) ?_
            refine z_calli [0] (v := m_X6_signOf (m_X6_next_h021 td ftp fwo za1)) (fun _ _ h => h) (va_runV (As := []) (rest := []) ⟨hx, hb, hml, hown, hts⟩ (c_X6_signOf l G h0 kd mo st ro tp cd sr ir ih ss sq ce lw wo he sk na kp gb go fa ga vo pb jg td tx ru him (nI (m_X6_next_h019 td ftp za1)) (m_X6_next_h020 td ftp za1) (m_X6_next_h021 td ftp fwo za1) (m_X6_next_h022 td ftp fwo za1) (nI hm1) op1 (nI ou1) s31 s32 s33 s34 s39 s40 H.size) (cwV 0 hts gX6_eRead_X6_signOf rfl rfl rfl (by decide +kernel) ⟨Nat.le_of_ble_eq_true rfl, Nat.le_of_ble_eq_true rfl⟩) ⟨gPre_blind, va_recv (q := (RX6, TX6, 42)) hK hP (ci := 6) (q0 := 0) rfl rfl, fun U hU hW => gPre_ofF [0] hU hW hK hP hD (by decide +kernel) rfl⟩ rfl rfl hl.1 rfl (lv_room (Nat.le_of_ble_eq_true rfl)) dX6_eRead_230 ⟨Nat.le_of_ble_eq_true rfl, Nat.le_of_ble_eq_true rfl⟩) hS hD hA rfl (fun u t H locs ht hvm hB hz1 hk1 hFq hAq hS => ?_)
            obtain ⟨hP1, hK1, hD1⟩ := hB
            have hP := zKeep hP hD [0] hAq hk1 ht hP1 rfl
            refine lv_istore_n (lv' := [zI 3 (m_X6_signOf (m_X6_next_h021 td ftp fwo za1)), zR 0 h0, zI 1 wv, zI 2 mn]) hx hb dX6_eRead_233 rfl hl (by decide +kernel) rfl (fun ls hl => ?_)
            refine lv_iload_n hx hb dX6_eRead_234 rfl (lv_at hl 0 rfl) ?_
            refine lv_iconst (v := -1) hx hb dX6_eRead_235 (by decide +kernel) ?_
            refine lv_icmp_eq (tgt := 247) hx hb dX6_eRead_236 (by decide +kernel) (fun c_8 => ?_) (fun c_8 => ?_)
            · skip
              refine lv_iconst (v := 0) hx hb dX6_eRead_247 (by decide +kernel) ?_
              have hpost : (fun (r : Int32) (u : Nat × Nat × Int32 × Int32 × Int32 × Int32 × Int32 × (Nat → Int32) × (Nat → Int32)) => match u with | (zza, zou, zhm, zop, zb, zt, zv, ycd, yhe) => (r = 0 ∨ r = 1) ∧ (r = 1 → dp (eF ycd tx) ou (zou - ou) = some 1) ∧ zza ≤ td ∧ zou + 1 ≤ zza ∧ ou ≤ zou ∧ (∀ i, (i < 200 * tx + ou ∨ 200 * tx + 200 ≤ i) → ycd i = fcd i) ∧ ∃ j9 b9, eRun tx td ftp fwo j9 za 0 ou 0 fcd fhe 1 1 = some (b9, zza, zou, zb, ycd, yhe) ∧ r = bz b9) 0 ((m_X6_next_h019 td ftp za1), ou1, (nI hm1), op1, (m_X6_next_h020 td ftp za1), (m_X6_next_h021 td ftp fwo za1), (m_X6_next_h022 td ftp fwo za1), yc, yh) := by exact ⟨Or.inl rfl, fun z => absurd z (by decide +kernel), by omega, by omega, by omega, hu, ⟨1 + j9, false, by rw [hF 1, show (1 : Nat) = 0 + 1 from rfl, eRun]; rw [if_pos c_3, if_neg c_4, if_neg c_5, if_pos c_8], rfl⟩⟩
              exact W.zret (v := 0) hx hb hr (rfl) (fun t ht hW => ⟨⟨0, ((m_X6_next_h019 td ftp za1), ou1, (nI hm1), op1, (m_X6_next_h020 td ftp za1), (m_X6_next_h021 td ftp fwo za1), (m_X6_next_h022 td ftp fwo za1), yc, yh), rfl, hpost, by rw [ht]; exact hP, va_K.moved hW.alike hK, hD⟩, hS.F ht⟩) hS.2.2 dX6_eRead_248
            · skip
              refine lv_aload_n hx hb dX6_eRead_239 rfl (lv_at hl 1 rfl) ?_
              refine lv_iload_n hx hb dX6_eRead_240 rfl (lv_at hl 0 rfl) ?_
              refine z_calli [0, 1, 2] (v := m_X6_between tx op1 yc yh (m_X6_signOf (m_X6_next_h021 td ftp fwo za1)) hm1 ou1) (fun _ _ h => h) (va_runV (As := [.int (m_X6_signOf (m_X6_next_h021 td ftp fwo za1))]) (rest := []) ⟨hx, hb, hml, hown, hts⟩ (c_X6_between l G h0 kd mo st ro tp cd sr ir ih ss sq ce lw wo he sk na kp gb go fa ga vo pb jg td tx ru him (nI (m_X6_next_h019 td ftp za1)) (m_X6_next_h020 td ftp za1) (m_X6_next_h021 td ftp fwo za1) (m_X6_next_h022 td ftp fwo za1) op1 s31 s32 s33 s34 s39 s40 yc yh (m_X6_signOf (m_X6_next_h021 td ftp fwo za1)) hm1 ou1 H.size (by omega) (by first | exact htx | assumption | omega)) (cwV 1 hts gX6_eRead_X6_between rfl rfl rfl (by decide +kernel) ⟨Nat.le_of_ble_eq_true rfl, Nat.le_of_ble_eq_true rfl⟩) ⟨gPre_blind, va_recv (q := (RX6, TX6, 42)) hK hP (ci := 6) (q0 := 0) rfl rfl, fun U hU hW => gPre_ofF [0, 1, 2] hU hW hK hP hD (by decide +kernel) rfl⟩ rfl rfl hl.1 rfl (lv_room (Nat.le_of_ble_eq_true rfl)) dX6_eRead_241 ⟨Nat.le_of_ble_eq_true rfl, Nat.le_of_ble_eq_true rfl⟩) hS hD hA rfl (fun u t H locs ht hvm hB hz1 hk1 hFq hAq hS => ?_)
              obtain ⟨hP1, hK1, hD1⟩ := hB
              have hz9 : gPD G A [zo6 h0 (nI pb) kd mo st (nI jg) ro tp (nI td) cd sr (nI tx) (nI ru) him ir ih ss sq ce lw (nI (m_X6_next_h019 td ftp za1)) (m_X6_next_h020 td ftp za1) (m_X6_next_h021 td ftp fwo za1) (m_X6_next_h022 td ftp fwo za1) wo he (nI (m_X6_between_h025 tx op1 yc yh (m_X6_signOf (m_X6_next_h021 td ftp fwo za1)) hm1 ou1)) (m_X6_between_h026 tx op1 yc yh (m_X6_signOf (m_X6_next_h021 td ftp fwo za1)) hm1 ou1) (nI (m_X6_between_h027 tx op1 yc yh (m_X6_signOf (m_X6_next_h021 td ftp fwo za1)) hm1 ou1)) sk na kp s31 s32 s33 s34 gb go fa ga s39 s40 vo, zi G cd 1200 (m_X6_between_cd tx op1 yc yh (m_X6_signOf (m_X6_next_h021 td ftp fwo za1)) hm1 ou1), zi G he 200 (m_X6_between_he tx op1 yc yh (m_X6_signOf (m_X6_next_h021 td ftp fwo za1)) hm1 ou1), zi G tp 160 ftp, zi G wo 96 fwo] H := zFill hP hD [0, 1, 2] [1, 2, 3] hAq hk1 hFq ht hP1 hD1 rfl (by decide +kernel)
              have hP := hz9.1
              have hD := hz9.2
              refine lv_if_ne (tgt := 249) hx hb dX6_eRead_244 (by decide +kernel) (fun c_11 => ?_) (fun c_11 => ?_)
              · skip
                have hgs := sg_ok c_8
                have hgt := hn3 hgs.2
                have hB := bt_use hgs.1 hI0 c_11
                have hB2 := (bt_any (s26 := op1) hgs.1 hI0).1
                refine lv_iconst (v := 1) hx hb dX6_eRead_249 (by decide +kernel) ?_
                refine lv_istore_n (lv' := [zI 1 1, zI 3 (m_X6_signOf (m_X6_next_h021 td ftp fwo za1)), zR 0 h0, zI 2 mn]) hx hb dX6_eRead_250 rfl hl (by decide +kernel) rfl (fun ls hl => ?_)
                refine lv_iload_n hx hb dX6_eRead_251 rfl (lv_at hl 1 rfl) ?_
                refine lv_bipush (v := 12) hx hb dX6_eRead_252 (by decide +kernel) ?_
                refine lv_icmp_gt (tgt := 261) hx hb dX6_eRead_254 (by decide +kernel) (fun c_12 => ?_) (fun c_12 => ?_)
                · skip
                  refine lv_iconst (v := 0) hx hb dX6_eRead_261 (by decide +kernel) ?_
                  refine lv_istore_n (lv' := [zI 2 0, zI 1 1, zI 3 (m_X6_signOf (m_X6_next_h021 td ftp fwo za1)), zR 0 h0]) hx hb dX6_eRead_262 rfl hl (by decide +kernel) rfl (fun ls hl => ?_)
                  refine lv_goto (tgt := 14) hx hb dX6_eRead_263 (by decide +kernel) ?_
                  exact ih9 (m_X6_next_h019 td ftp za1) (m_X6_between_h025 tx op1 yc yh (m_X6_signOf (m_X6_next_h021 td ftp fwo za1)) hm1 ou1) (m_X6_between_h027 tx op1 yc yh (m_X6_signOf (m_X6_next_h021 td ftp fwo za1)) hm1 ou1) (m_X6_between_h026 tx op1 yc yh (m_X6_signOf (m_X6_next_h021 td ftp fwo za1)) hm1 ou1) (m_X6_next_h020 td ftp za1) (m_X6_next_h021 td ftp fwo za1) (m_X6_next_h022 td ftp fwo za1) (m_X6_between_cd tx op1 yc yh (m_X6_signOf (m_X6_next_h021 td ftp fwo za1)) hm1 ou1) (m_X6_between_he tx op1 yc yh (m_X6_signOf (m_X6_next_h021 td ftp fwo za1)) hm1 ou1) 1 0 (j9 + 1) (⟨hn2, by omega⟩) (by omega) (Or.inl ⟨rfl, hB.1⟩) (fun i hi => by rw [hB.2.2 i (by omega) (by omega)]; exact hu i hi) (fun q => by rw [show q + (j9 + 1) = (q + 1) + j9 by omega, hF (q + 1), eRun]; rw [if_pos c_3, if_neg c_4, if_neg c_5, if_neg c_8, if_neg c_11, if_pos c_12]) (by omega) _ _ hP hD hS ls (lv_sub hl [3, 1, 0] rfl)
                · skip
                  refine lv_iconst (v := 1) hx hb dX6_eRead_257 (by decide +kernel) ?_
                  refine lv_goto (tgt := 262) hx hb dX6_eRead_258 (by decide +kernel) ?_
                  refine lv_istore_n (lv' := [zI 2 1, zI 1 1, zI 3 (m_X6_signOf (m_X6_next_h021 td ftp fwo za1)), zR 0 h0]) hx hb dX6_eRead_262 rfl hl (by decide +kernel) rfl (fun ls hl => ?_)
                  refine lv_goto (tgt := 14) hx hb dX6_eRead_263 (by decide +kernel) ?_
                  exact ih9 (m_X6_next_h019 td ftp za1) (m_X6_between_h025 tx op1 yc yh (m_X6_signOf (m_X6_next_h021 td ftp fwo za1)) hm1 ou1) (m_X6_between_h027 tx op1 yc yh (m_X6_signOf (m_X6_next_h021 td ftp fwo za1)) hm1 ou1) (m_X6_between_h026 tx op1 yc yh (m_X6_signOf (m_X6_next_h021 td ftp fwo za1)) hm1 ou1) (m_X6_next_h020 td ftp za1) (m_X6_next_h021 td ftp fwo za1) (m_X6_next_h022 td ftp fwo za1) (m_X6_between_cd tx op1 yc yh (m_X6_signOf (m_X6_next_h021 td ftp fwo za1)) hm1 ou1) (m_X6_between_he tx op1 yc yh (m_X6_signOf (m_X6_next_h021 td ftp fwo za1)) hm1 ou1) 1 1 (j9 + 1) (⟨hn2, by omega⟩) (by omega) (Or.inl ⟨rfl, hB.1⟩) (fun i hi => by rw [hB.2.2 i (by omega) (by omega)]; exact hu i hi) (fun q => by rw [show q + (j9 + 1) = (q + 1) + j9 by omega, hF (q + 1), eRun]; rw [if_pos c_3, if_neg c_4, if_neg c_5, if_neg c_8, if_neg c_11, if_neg c_12]) (by omega) _ _ hP hD hS ls (lv_sub hl [3, 1, 0] rfl)
              · skip
                refine lv_iconst (v := 0) hx hb dX6_eRead_247 (by decide +kernel) ?_
                have hpost : (fun (r : Int32) (u : Nat × Nat × Int32 × Int32 × Int32 × Int32 × Int32 × (Nat → Int32) × (Nat → Int32)) => match u with | (zza, zou, zhm, zop, zb, zt, zv, ycd, yhe) => (r = 0 ∨ r = 1) ∧ (r = 1 → dp (eF ycd tx) ou (zou - ou) = some 1) ∧ zza ≤ td ∧ zou + 1 ≤ zza ∧ ou ≤ zou ∧ (∀ i, (i < 200 * tx + ou ∨ 200 * tx + 200 ≤ i) → ycd i = fcd i) ∧ ∃ j9 b9, eRun tx td ftp fwo j9 za 0 ou 0 fcd fhe 1 1 = some (b9, zza, zou, zb, ycd, yhe) ∧ r = bz b9) 0 ((m_X6_next_h019 td ftp za1), (m_X6_between_h027 tx op1 yc yh (m_X6_signOf (m_X6_next_h021 td ftp fwo za1)) hm1 ou1), nI (m_X6_between_h025 tx op1 yc yh (m_X6_signOf (m_X6_next_h021 td ftp fwo za1)) hm1 ou1), (m_X6_between_h026 tx op1 yc yh (m_X6_signOf (m_X6_next_h021 td ftp fwo za1)) hm1 ou1), (m_X6_next_h020 td ftp za1), (m_X6_next_h021 td ftp fwo za1), (m_X6_next_h022 td ftp fwo za1), (m_X6_between_cd tx op1 yc yh (m_X6_signOf (m_X6_next_h021 td ftp fwo za1)) hm1 ou1), (m_X6_between_he tx op1 yc yh (m_X6_signOf (m_X6_next_h021 td ftp fwo za1)) hm1 ou1)) := by have hU9 := bt_any (s26 := op1) (sg_ok c_8).1 hI0; exact ⟨Or.inl rfl, fun z => absurd z (by decide +kernel), by omega, by omega, by omega, fun i hi => by rw [hU9.2 i (by omega) (by omega)]; exact hu i hi, ⟨1 + j9, false, by rw [hF 1, show (1 : Nat) = 0 + 1 from rfl, eRun]; rw [if_pos c_3, if_neg c_4, if_neg c_5, if_neg c_8, if_pos c_11], rfl⟩⟩
                exact W.zret (v := 0) hx hb hr (rfl) (fun t ht hW => ⟨⟨0, ((m_X6_next_h019 td ftp za1), (m_X6_between_h027 tx op1 yc yh (m_X6_signOf (m_X6_next_h021 td ftp fwo za1)) hm1 ou1), nI (m_X6_between_h025 tx op1 yc yh (m_X6_signOf (m_X6_next_h021 td ftp fwo za1)) hm1 ou1), (m_X6_between_h026 tx op1 yc yh (m_X6_signOf (m_X6_next_h021 td ftp fwo za1)) hm1 ou1), (m_X6_next_h020 td ftp za1), (m_X6_next_h021 td ftp fwo za1), (m_X6_next_h022 td ftp fwo za1), (m_X6_between_cd tx op1 yc yh (m_X6_signOf (m_X6_next_h021 td ftp fwo za1)) hm1 ou1), (m_X6_between_he tx op1 yc yh (m_X6_signOf (m_X6_next_h021 td ftp fwo za1)) hm1 ou1)), rfl, hpost, by rw [ht]; exact hP, va_K.moved hW.alike hK, hD⟩, hS.F ht⟩) hS.2.2 dX6_eRead_248
          · skip
            refine lv_aload_n hx hb dX6_eRead_186 rfl (lv_at hl 0 rfl) ?_
            refine lv_iconst (v := 1) hx hb dX6_eRead_187 (by decide +kernel) ?_
            refine z_callv [0, 1, 2] (va_runV (As := [.int 1]) (rest := []) ⟨hx, hb, hml, hown, hts⟩ (c_X6_unwinds l G h0 kd mo st ro tp cd sr ir ih ss sq ce lw wo he sk na kp gb go fa ga vo pb jg td tx ru him (nI (m_X6_next_h019 td ftp za1)) (m_X6_next_h020 td ftp za1) (m_X6_next_h021 td ftp fwo za1) (m_X6_next_h022 td ftp fwo za1) op1 s31 s32 s33 s34 s39 s40 yc yh 1 hm1 ou1 H.size (by first | exact hom | assumption | omega) (by first | exact htx | assumption | omega)) (cwV 1 hts gX6_eRead_X6_unwinds rfl rfl rfl (by decide +kernel) ⟨Nat.le_of_ble_eq_true rfl, Nat.le_of_ble_eq_true rfl⟩) ⟨gPre_blind, va_recv (q := (RX6, TX6, 42)) hK hP (ci := 6) (q0 := 0) rfl rfl, fun U hU hW => gPre_ofF [0, 1, 2] hU hW hK hP hD (by decide +kernel) rfl⟩ rfl rfl hl.1 rfl (lv_room (Nat.le_of_ble_eq_true rfl)) dX6_eRead_188 ⟨Nat.le_of_ble_eq_true rfl, Nat.le_of_ble_eq_true rfl⟩) hS hD hA rfl (fun u t H locs ht hvm w_14 hB hz1 hk1 hFq hAq hS => ?_)
            obtain ⟨hP1, hK1, hD1⟩ := hB
            have w_14 : (m_X6_unwinds_h025 tx op1 yc yh 1 hm1 ou1) ≤ hm1 ∧ (m_X6_unwinds_h027 tx op1 yc yh 1 hm1 ou1) + (m_X6_unwinds_h025 tx op1 yc yh 1 hm1 ou1) = ou1 + hm1 := w_14
            have hz9 : gPD G A [zo6 h0 (nI pb) kd mo st (nI jg) ro tp (nI td) cd sr (nI tx) (nI ru) him ir ih ss sq ce lw (nI (m_X6_next_h019 td ftp za1)) (m_X6_next_h020 td ftp za1) (m_X6_next_h021 td ftp fwo za1) (m_X6_next_h022 td ftp fwo za1) wo he (nI (m_X6_unwinds_h025 tx op1 yc yh 1 hm1 ou1)) (m_X6_unwinds_h026 tx op1 yc yh 1 hm1 ou1) (nI (m_X6_unwinds_h027 tx op1 yc yh 1 hm1 ou1)) sk na kp s31 s32 s33 s34 gb go fa ga s39 s40 vo, zi G cd 1200 (m_X6_unwinds_cd tx op1 yc yh 1 hm1 ou1), zi G he 200 yh, zi G tp 160 ftp, zi G wo 96 fwo] H := zFill hP hD [0, 1, 2] [1, 2, 3] hAq hk1 hFq ht hP1 hD1 rfl (by decide +kernel)
            have hP := hz9.1
            have hD := hz9.2
            have huw := w_14
            refine g_aget (D := G.1) (ci := 6) (v := .int (nI (m_X6_unwinds_h025 tx op1 yc yh 1 hm1 ou1))) (C := RX6) (T := TX6) (N := 42) hx hb dX6_eRead_191 rfl (lv_at hl 0 rfl) hts hiX6 hown hK hP 0 rfl rfl 25 (by decide +kernel) kf130 (fun _ h9 => h9) rfl dX6_eRead_192 ?_
            refine lv_if_ne (tgt := 200) hx hb dX6_eRead_195 (by decide +kernel) (fun c_15 => ?_) (fun c_15 => ?_)
            · skip
              have c_15N : ¬ (m_X6_unwinds_h025 tx op1 yc yh 1 hm1 ou1) = 0 := nI_eq0 (a := (m_X6_unwinds_h025 tx op1 yc yh 1 hm1 ou1)) (b := 0) (by omega) (by omega) c_15
              have hU := uw_use (s26 := op1) (by decide : (1 : Int32) ≤ 1) hI0
              have hI2 := eI_drop (hm := (m_X6_unwinds_h025 tx op1 yc yh 1 hm1 ou1) - 1) (by rw [show (m_X6_unwinds_h025 tx op1 yc yh 1 hm1 ou1) - 1 + 1 = m_X6_unwinds_h025 tx op1 yc yh 1 hm1 ou1 by omega]; exact hU.1) (okH_r1 (hU.1.2.2 _ (by omega)) (uw_topu c_15N))
              refine lv_aload_n hx hb dX6_eRead_200 rfl (lv_at hl 0 rfl) ?_
              refine lv_dup hx hb dX6_eRead_201 rfl ?_
              refine va_get (D := G.1) (ci := 6) (v := .int (nI (m_X6_unwinds_h025 tx op1 yc yh 1 hm1 ou1))) (C := RX6) (T := TX6) (N := 42) hx hb hts hiX6 hown hK hP 0 rfl rfl 25 (by decide +kernel) kf130 (fun _ h9 => h9) rfl dX6_eRead_202 ?_
              refine lv_iconst (v := 1) hx hb dX6_eRead_205 (by decide +kernel) ?_
              refine lv_isub hx hb dX6_eRead_206 ?_
              refine g_topi (y := nI ((m_X6_unwinds_h025 tx op1 yc yh 1 hm1 ou1) - 1)) (pk_sub (a := (m_X6_unwinds_h025 tx op1 yc yh 1 hm1 ou1)) (b := 1) (by omega)) ?_
              refine va_put (D := G.1) (ci := 6) (v := .int (nI ((m_X6_unwinds_h025 tx op1 yc yh 1 hm1 ou1) - 1))) (ty := .int) (C := RX6) (T := TX6) (N := 42) hx hb hts hiX6 tyX6 tyX6_ok nmX6 hown hK hP hD hS 0 rfl rfl 25 (by decide +kernel) kf130 (fun _ h9 => h9) rfl (by decide +kernel) rfl rfl (Nat.le_of_ble_eq_true rfl) dX6_eRead_207 (fun H locs hP hD hS => ?_)
              have hz9 : gPD G A [zo6 h0 (nI pb) kd mo st (nI jg) ro tp (nI td) cd sr (nI tx) (nI ru) him ir ih ss sq ce lw (nI (m_X6_next_h019 td ftp za1)) (m_X6_next_h020 td ftp za1) (m_X6_next_h021 td ftp fwo za1) (m_X6_next_h022 td ftp fwo za1) wo he (nI ((m_X6_unwinds_h025 tx op1 yc yh 1 hm1 ou1) - 1)) (m_X6_unwinds_h026 tx op1 yc yh 1 hm1 ou1) (nI (m_X6_unwinds_h027 tx op1 yc yh 1 hm1 ou1)) sk na kp s31 s32 s33 s34 gb go fa ga s39 s40 vo, zi G cd 1200 (m_X6_unwinds_cd tx op1 yc yh 1 hm1 ou1), zi G he 200 yh, zi G tp 160 ftp, zi G wo 96 fwo] H := ⟨hP, hD⟩
              have hP := hz9.1
              have hD := hz9.2
              refine lv_aload_n hx hb dX6_eRead_210 rfl (lv_at hl 0 rfl) ?_
              refine lv_dup hx hb dX6_eRead_211 rfl ?_
              refine va_get (D := G.1) (ci := 6) (v := .int (m_X6_unwinds_h026 tx op1 yc yh 1 hm1 ou1)) (C := RX6) (T := TX6) (N := 42) hx hb hts hiX6 hown hK hP 0 rfl rfl 26 (by decide +kernel) kf137 (fun _ h9 => h9) rfl dX6_eRead_212 ?_
              refine lv_iconst (v := 1) hx hb dX6_eRead_215 (by decide +kernel) ?_
              refine lv_isub hx hb dX6_eRead_216 ?_
              refine va_put (D := G.1) (ci := 6) (v := .int ((m_X6_unwinds_h026 tx op1 yc yh 1 hm1 ou1) - 1)) (ty := .int) (C := RX6) (T := TX6) (N := 42) hx hb hts hiX6 tyX6 tyX6_ok nmX6 hown hK hP hD hS 0 rfl rfl 26 (by decide +kernel) kf137 (fun _ h9 => h9) rfl (by decide +kernel) rfl rfl (Nat.le_of_ble_eq_true rfl) dX6_eRead_217 (fun H locs hP hD hS => ?_)
              have hz9 : gPD G A [zo6 h0 (nI pb) kd mo st (nI jg) ro tp (nI td) cd sr (nI tx) (nI ru) him ir ih ss sq ce lw (nI (m_X6_next_h019 td ftp za1)) (m_X6_next_h020 td ftp za1) (m_X6_next_h021 td ftp fwo za1) (m_X6_next_h022 td ftp fwo za1) wo he (nI ((m_X6_unwinds_h025 tx op1 yc yh 1 hm1 ou1) - 1)) ((m_X6_unwinds_h026 tx op1 yc yh 1 hm1 ou1) - 1) (nI (m_X6_unwinds_h027 tx op1 yc yh 1 hm1 ou1)) sk na kp s31 s32 s33 s34 gb go fa ga s39 s40 vo, zi G cd 1200 (m_X6_unwinds_cd tx op1 yc yh 1 hm1 ou1), zi G he 200 yh, zi G tp 160 ftp, zi G wo 96 fwo] H := ⟨hP, hD⟩
              have hP := hz9.1
              have hD := hz9.2
              refine lv_aload_n hx hb dX6_eRead_220 rfl (lv_at hl 0 rfl) ?_
              refine lv_bipush (v := 7) hx hb dX6_eRead_221 (by decide +kernel) ?_
              refine z_callv [0, 1, 2] (va_runV (As := [.int 7]) (rest := []) ⟨hx, hb, hml, hown, hts⟩ (c_X6_unwinds l G h0 kd mo st ro tp cd sr ir ih ss sq ce lw wo he sk na kp gb go fa ga vo pb jg td tx ru him (nI (m_X6_next_h019 td ftp za1)) (m_X6_next_h020 td ftp za1) (m_X6_next_h021 td ftp fwo za1) (m_X6_next_h022 td ftp fwo za1) ((m_X6_unwinds_h026 tx op1 yc yh 1 hm1 ou1) - 1) s31 s32 s33 s34 s39 s40 (m_X6_unwinds_cd tx op1 yc yh 1 hm1 ou1) yh 7 ((m_X6_unwinds_h025 tx op1 yc yh 1 hm1 ou1) - 1) (m_X6_unwinds_h027 tx op1 yc yh 1 hm1 ou1) H.size (by first | exact hom | assumption | omega) (by first | exact htx | assumption | omega)) (cwV 1 hts gX6_eRead_X6_unwinds rfl rfl rfl (by decide +kernel) ⟨Nat.le_of_ble_eq_true rfl, Nat.le_of_ble_eq_true rfl⟩) ⟨gPre_blind, va_recv (q := (RX6, TX6, 42)) hK hP (ci := 6) (q0 := 0) rfl rfl, fun U hU hW => gPre_ofF [0, 1, 2] hU hW hK hP hD (by decide +kernel) rfl⟩ rfl rfl hl.1 rfl (lv_room (Nat.le_of_ble_eq_true rfl)) dX6_eRead_223 ⟨Nat.le_of_ble_eq_true rfl, Nat.le_of_ble_eq_true rfl⟩) hS hD hA rfl (fun u t H locs ht hvm w_18 hB hz1 hk1 hFq hAq hS => ?_)
              obtain ⟨hP1, hK1, hD1⟩ := hB
              have w_18 : (m_X6_unwinds_h025 tx ((m_X6_unwinds_h026 tx op1 yc yh 1 hm1 ou1) - 1) (m_X6_unwinds_cd tx op1 yc yh 1 hm1 ou1) yh 7 ((m_X6_unwinds_h025 tx op1 yc yh 1 hm1 ou1) - 1) (m_X6_unwinds_h027 tx op1 yc yh 1 hm1 ou1)) ≤ ((m_X6_unwinds_h025 tx op1 yc yh 1 hm1 ou1) - 1) ∧ (m_X6_unwinds_h027 tx ((m_X6_unwinds_h026 tx op1 yc yh 1 hm1 ou1) - 1) (m_X6_unwinds_cd tx op1 yc yh 1 hm1 ou1) yh 7 ((m_X6_unwinds_h025 tx op1 yc yh 1 hm1 ou1) - 1) (m_X6_unwinds_h027 tx op1 yc yh 1 hm1 ou1)) + (m_X6_unwinds_h025 tx ((m_X6_unwinds_h026 tx op1 yc yh 1 hm1 ou1) - 1) (m_X6_unwinds_cd tx op1 yc yh 1 hm1 ou1) yh 7 ((m_X6_unwinds_h025 tx op1 yc yh 1 hm1 ou1) - 1) (m_X6_unwinds_h027 tx op1 yc yh 1 hm1 ou1)) = (m_X6_unwinds_h027 tx op1 yc yh 1 hm1 ou1) + ((m_X6_unwinds_h025 tx op1 yc yh 1 hm1 ou1) - 1) := w_18
              have hz9 : gPD G A [zo6 h0 (nI pb) kd mo st (nI jg) ro tp (nI td) cd sr (nI tx) (nI ru) him ir ih ss sq ce lw (nI (m_X6_next_h019 td ftp za1)) (m_X6_next_h020 td ftp za1) (m_X6_next_h021 td ftp fwo za1) (m_X6_next_h022 td ftp fwo za1) wo he (nI (m_X6_unwinds_h025 tx ((m_X6_unwinds_h026 tx op1 yc yh 1 hm1 ou1) - 1) (m_X6_unwinds_cd tx op1 yc yh 1 hm1 ou1) yh 7 ((m_X6_unwinds_h025 tx op1 yc yh 1 hm1 ou1) - 1) (m_X6_unwinds_h027 tx op1 yc yh 1 hm1 ou1))) (m_X6_unwinds_h026 tx ((m_X6_unwinds_h026 tx op1 yc yh 1 hm1 ou1) - 1) (m_X6_unwinds_cd tx op1 yc yh 1 hm1 ou1) yh 7 ((m_X6_unwinds_h025 tx op1 yc yh 1 hm1 ou1) - 1) (m_X6_unwinds_h027 tx op1 yc yh 1 hm1 ou1)) (nI (m_X6_unwinds_h027 tx ((m_X6_unwinds_h026 tx op1 yc yh 1 hm1 ou1) - 1) (m_X6_unwinds_cd tx op1 yc yh 1 hm1 ou1) yh 7 ((m_X6_unwinds_h025 tx op1 yc yh 1 hm1 ou1) - 1) (m_X6_unwinds_h027 tx op1 yc yh 1 hm1 ou1))) sk na kp s31 s32 s33 s34 gb go fa ga s39 s40 vo, zi G cd 1200 (m_X6_unwinds_cd tx ((m_X6_unwinds_h026 tx op1 yc yh 1 hm1 ou1) - 1) (m_X6_unwinds_cd tx op1 yc yh 1 hm1 ou1) yh 7 ((m_X6_unwinds_h025 tx op1 yc yh 1 hm1 ou1) - 1) (m_X6_unwinds_h027 tx op1 yc yh 1 hm1 ou1)), zi G he 200 yh, zi G tp 160 ftp, zi G wo 96 fwo] H := zFill hP hD [0, 1, 2] [1, 2, 3] hAq hk1 hFq ht hP1 hD1 rfl (by decide +kernel)
              have hP := hz9.1
              have hD := hz9.2
              have huw := w_18
              refine lv_goto (tgt := 14) hx hb dX6_eRead_226 (by decide +kernel) ?_
              have hgt := hn3 (fun z9 => absurd (c_5.symm.trans z9) (by decide +kernel))
              have hU2 := uw_use (s26 := m_X6_unwinds_h026 tx op1 yc yh 1 hm1 ou1 - 1) (by decide : (1 : Int32) ≤ 7) hI2
              exact ih9 (m_X6_next_h019 td ftp za1) (m_X6_unwinds_h025 tx ((m_X6_unwinds_h026 tx op1 yc yh 1 hm1 ou1) - 1) (m_X6_unwinds_cd tx op1 yc yh 1 hm1 ou1) yh 7 ((m_X6_unwinds_h025 tx op1 yc yh 1 hm1 ou1) - 1) (m_X6_unwinds_h027 tx op1 yc yh 1 hm1 ou1)) (m_X6_unwinds_h027 tx ((m_X6_unwinds_h026 tx op1 yc yh 1 hm1 ou1) - 1) (m_X6_unwinds_cd tx op1 yc yh 1 hm1 ou1) yh 7 ((m_X6_unwinds_h025 tx op1 yc yh 1 hm1 ou1) - 1) (m_X6_unwinds_h027 tx op1 yc yh 1 hm1 ou1)) (m_X6_unwinds_h026 tx ((m_X6_unwinds_h026 tx op1 yc yh 1 hm1 ou1) - 1) (m_X6_unwinds_cd tx op1 yc yh 1 hm1 ou1) yh 7 ((m_X6_unwinds_h025 tx op1 yc yh 1 hm1 ou1) - 1) (m_X6_unwinds_h027 tx op1 yc yh 1 hm1 ou1)) (m_X6_next_h020 td ftp za1) (m_X6_next_h021 td ftp fwo za1) (m_X6_next_h022 td ftp fwo za1) (m_X6_unwinds_cd tx ((m_X6_unwinds_h026 tx op1 yc yh 1 hm1 ou1) - 1) (m_X6_unwinds_cd tx op1 yc yh 1 hm1 ou1) yh 7 ((m_X6_unwinds_h025 tx op1 yc yh 1 hm1 ou1) - 1) (m_X6_unwinds_h027 tx op1 yc yh 1 hm1 ou1)) yh wv mn (j9 + 1) (⟨hn2, by omega⟩) (by omega) (Or.inr ⟨hw0, hU2.1⟩) (fun i hi => by rw [hU2.2 i (by omega) (by omega), hU.2 i (by omega) (by omega)]; exact hu i hi) (fun q => by rw [show q + (j9 + 1) = (q + 1) + j9 by omega, hF (q + 1), eRun]; rw [if_pos c_3, if_neg c_4, if_pos c_5, if_neg c_15]) (by omega) _ _ hP hD hS ls hl
            · skip
              have c_15N : (m_X6_unwinds_h025 tx op1 yc yh 1 hm1 ou1) = 0 := nI_eq1 (a := (m_X6_unwinds_h025 tx op1 yc yh 1 hm1 ou1)) (b := 0) (by omega) (by omega) c_15
              refine lv_iconst (v := 0) hx hb dX6_eRead_198 (by decide +kernel) ?_
              have hpost : (fun (r : Int32) (u : Nat × Nat × Int32 × Int32 × Int32 × Int32 × Int32 × (Nat → Int32) × (Nat → Int32)) => match u with | (zza, zou, zhm, zop, zb, zt, zv, ycd, yhe) => (r = 0 ∨ r = 1) ∧ (r = 1 → dp (eF ycd tx) ou (zou - ou) = some 1) ∧ zza ≤ td ∧ zou + 1 ≤ zza ∧ ou ≤ zou ∧ (∀ i, (i < 200 * tx + ou ∨ 200 * tx + 200 ≤ i) → ycd i = fcd i) ∧ ∃ j9 b9, eRun tx td ftp fwo j9 za 0 ou 0 fcd fhe 1 1 = some (b9, zza, zou, zb, ycd, yhe) ∧ r = bz b9) 0 ((m_X6_next_h019 td ftp za1), (m_X6_unwinds_h027 tx op1 yc yh 1 hm1 ou1), nI (m_X6_unwinds_h025 tx op1 yc yh 1 hm1 ou1), (m_X6_unwinds_h026 tx op1 yc yh 1 hm1 ou1), (m_X6_next_h020 td ftp za1), (m_X6_next_h021 td ftp fwo za1), (m_X6_next_h022 td ftp fwo za1), (m_X6_unwinds_cd tx op1 yc yh 1 hm1 ou1), yh) := by have hU9 := uw_use (s26 := op1) (by decide : (1 : Int32) ≤ 1) hI0; exact ⟨Or.inl rfl, fun z => absurd z (by decide +kernel), by omega, by omega, by omega, fun i hi => by rw [hU9.2 i (by omega) (by omega)]; exact hu i hi, ⟨1 + j9, false, by rw [hF 1, show (1 : Nat) = 0 + 1 from rfl, eRun]; rw [if_pos c_3, if_neg c_4, if_pos c_5, if_pos c_15], rfl⟩⟩
              exact W.zret (v := 0) hx hb hr (rfl) (fun t ht hW => ⟨⟨0, ((m_X6_next_h019 td ftp za1), (m_X6_unwinds_h027 tx op1 yc yh 1 hm1 ou1), nI (m_X6_unwinds_h025 tx op1 yc yh 1 hm1 ou1), (m_X6_unwinds_h026 tx op1 yc yh 1 hm1 ou1), (m_X6_next_h020 td ftp za1), (m_X6_next_h021 td ftp fwo za1), (m_X6_next_h022 td ftp fwo za1), (m_X6_unwinds_cd tx op1 yc yh 1 hm1 ou1), yh), rfl, hpost, by rw [ht]; exact hP, va_K.moved hW.alike hK, hD⟩, hS.F ht⟩) hS.2.2 dX6_eRead_199
        · skip
          refine lv_aload_n hx hb dX6_eRead_159 rfl (lv_at hl 0 rfl) ?_
          refine lv_iconst (v := 1) hx hb dX6_eRead_160 (by decide +kernel) ?_
          refine z_callv [0, 1, 2] (va_runV (As := [.int 1]) (rest := []) ⟨hx, hb, hml, hown, hts⟩ (c_X6_unwinds l G h0 kd mo st ro tp cd sr ir ih ss sq ce lw wo he sk na kp gb go fa ga vo pb jg td tx ru him (nI (m_X6_next_h019 td ftp za1)) (m_X6_next_h020 td ftp za1) (m_X6_next_h021 td ftp fwo za1) (m_X6_next_h022 td ftp fwo za1) op1 s31 s32 s33 s34 s39 s40 yc yh 1 hm1 ou1 H.size (by first | exact hom | assumption | omega) (by first | exact htx | assumption | omega)) (cwV 1 hts gX6_eRead_X6_unwinds rfl rfl rfl (by decide +kernel) ⟨Nat.le_of_ble_eq_true rfl, Nat.le_of_ble_eq_true rfl⟩) ⟨gPre_blind, va_recv (q := (RX6, TX6, 42)) hK hP (ci := 6) (q0 := 0) rfl rfl, fun U hU hW => gPre_ofF [0, 1, 2] hU hW hK hP hD (by decide +kernel) rfl⟩ rfl rfl hl.1 rfl (lv_room (Nat.le_of_ble_eq_true rfl)) dX6_eRead_161 ⟨Nat.le_of_ble_eq_true rfl, Nat.le_of_ble_eq_true rfl⟩) hS hD hA rfl (fun u t H locs ht hvm w_20 hB hz1 hk1 hFq hAq hS => ?_)
          obtain ⟨hP1, hK1, hD1⟩ := hB
          have w_20 : (m_X6_unwinds_h025 tx op1 yc yh 1 hm1 ou1) ≤ hm1 ∧ (m_X6_unwinds_h027 tx op1 yc yh 1 hm1 ou1) + (m_X6_unwinds_h025 tx op1 yc yh 1 hm1 ou1) = ou1 + hm1 := w_20
          have hz9 : gPD G A [zo6 h0 (nI pb) kd mo st (nI jg) ro tp (nI td) cd sr (nI tx) (nI ru) him ir ih ss sq ce lw (nI (m_X6_next_h019 td ftp za1)) (m_X6_next_h020 td ftp za1) (m_X6_next_h021 td ftp fwo za1) (m_X6_next_h022 td ftp fwo za1) wo he (nI (m_X6_unwinds_h025 tx op1 yc yh 1 hm1 ou1)) (m_X6_unwinds_h026 tx op1 yc yh 1 hm1 ou1) (nI (m_X6_unwinds_h027 tx op1 yc yh 1 hm1 ou1)) sk na kp s31 s32 s33 s34 gb go fa ga s39 s40 vo, zi G cd 1200 (m_X6_unwinds_cd tx op1 yc yh 1 hm1 ou1), zi G he 200 yh, zi G tp 160 ftp, zi G wo 96 fwo] H := zFill hP hD [0, 1, 2] [1, 2, 3] hAq hk1 hFq ht hP1 hD1 rfl (by decide +kernel)
          have hP := hz9.1
          have hD := hz9.2
          have huw := w_20
          refine g_aget (D := G.1) (ci := 6) (v := .int (nI (m_X6_unwinds_h025 tx op1 yc yh 1 hm1 ou1))) (C := RX6) (T := TX6) (N := 42) hx hb dX6_eRead_164 rfl (lv_at hl 0 rfl) hts hiX6 hown hK hP 0 rfl rfl 25 (by decide +kernel) kf130 (fun _ h9 => h9) rfl dX6_eRead_165 ?_
          refine lv_if_ne (tgt := 175) hx hb dX6_eRead_168 (by decide +kernel) (fun c_21 => ?_) (fun c_21 => ?_)
          · skip
            have c_21N : ¬ (m_X6_unwinds_h025 tx op1 yc yh 1 hm1 ou1) = 0 := nI_eq0 (a := (m_X6_unwinds_h025 tx op1 yc yh 1 hm1 ou1)) (b := 0) (by omega) (by omega) c_21
            refine lv_iconst (v := 0) hx hb dX6_eRead_175 (by decide +kernel) ?_
            have hpost : (fun (r : Int32) (u : Nat × Nat × Int32 × Int32 × Int32 × Int32 × Int32 × (Nat → Int32) × (Nat → Int32)) => match u with | (zza, zou, zhm, zop, zb, zt, zv, ycd, yhe) => (r = 0 ∨ r = 1) ∧ (r = 1 → dp (eF ycd tx) ou (zou - ou) = some 1) ∧ zza ≤ td ∧ zou + 1 ≤ zza ∧ ou ≤ zou ∧ (∀ i, (i < 200 * tx + ou ∨ 200 * tx + 200 ≤ i) → ycd i = fcd i) ∧ ∃ j9 b9, eRun tx td ftp fwo j9 za 0 ou 0 fcd fhe 1 1 = some (b9, zza, zou, zb, ycd, yhe) ∧ r = bz b9) 0 ((m_X6_next_h019 td ftp za1), (m_X6_unwinds_h027 tx op1 yc yh 1 hm1 ou1), nI (m_X6_unwinds_h025 tx op1 yc yh 1 hm1 ou1), (m_X6_unwinds_h026 tx op1 yc yh 1 hm1 ou1), (m_X6_next_h020 td ftp za1), (m_X6_next_h021 td ftp fwo za1), (m_X6_next_h022 td ftp fwo za1), (m_X6_unwinds_cd tx op1 yc yh 1 hm1 ou1), yh) := by have hU9 := uw_use (s26 := op1) (by decide : (1 : Int32) ≤ 1) hI0; exact ⟨Or.inl rfl, fun z => absurd z (by decide +kernel), by omega, by omega, by omega, fun i hi => by rw [hU9.2 i (by omega) (by omega)]; exact hu i hi, ⟨1 + j9, false, by rw [hF 1, show (1 : Nat) = 0 + 1 from rfl, eRun]; rw [if_pos c_3, if_pos c_4, if_neg c_21], rfl⟩⟩
            exact W.zret (v := 0) hx hb hr (rfl) (fun t ht hW => ⟨⟨0, ((m_X6_next_h019 td ftp za1), (m_X6_unwinds_h027 tx op1 yc yh 1 hm1 ou1), nI (m_X6_unwinds_h025 tx op1 yc yh 1 hm1 ou1), (m_X6_unwinds_h026 tx op1 yc yh 1 hm1 ou1), (m_X6_next_h020 td ftp za1), (m_X6_next_h021 td ftp fwo za1), (m_X6_next_h022 td ftp fwo za1), (m_X6_unwinds_cd tx op1 yc yh 1 hm1 ou1), yh), rfl, hpost, by rw [ht]; exact hP, va_K.moved hW.alike hK, hD⟩, hS.F ht⟩) hS.2.2 dX6_eRead_176
          · skip
            have c_21N : (m_X6_unwinds_h025 tx op1 yc yh 1 hm1 ou1) = 0 := nI_eq1 (a := (m_X6_unwinds_h025 tx op1 yc yh 1 hm1 ou1)) (b := 0) (by omega) (by omega) c_21
            refine lv_iconst (v := 1) hx hb dX6_eRead_171 (by decide +kernel) ?_
            refine lv_goto (tgt := 176) hx hb dX6_eRead_172 (by decide +kernel) ?_
            have hpost : (fun (r : Int32) (u : Nat × Nat × Int32 × Int32 × Int32 × Int32 × Int32 × (Nat → Int32) × (Nat → Int32)) => match u with | (zza, zou, zhm, zop, zb, zt, zv, ycd, yhe) => (r = 0 ∨ r = 1) ∧ (r = 1 → dp (eF ycd tx) ou (zou - ou) = some 1) ∧ zza ≤ td ∧ zou + 1 ≤ zza ∧ ou ≤ zou ∧ (∀ i, (i < 200 * tx + ou ∨ 200 * tx + 200 ≤ i) → ycd i = fcd i) ∧ ∃ j9 b9, eRun tx td ftp fwo j9 za 0 ou 0 fcd fhe 1 1 = some (b9, zza, zou, zb, ycd, yhe) ∧ r = bz b9) 1 ((m_X6_next_h019 td ftp za1), (m_X6_unwinds_h027 tx op1 yc yh 1 hm1 ou1), nI (m_X6_unwinds_h025 tx op1 yc yh 1 hm1 ou1), (m_X6_unwinds_h026 tx op1 yc yh 1 hm1 ou1), (m_X6_next_h020 td ftp za1), (m_X6_next_h021 td ftp fwo za1), (m_X6_next_h022 td ftp fwo za1), (m_X6_unwinds_cd tx op1 yc yh 1 hm1 ou1), yh) := by have hU9 := uw_use (s26 := op1) (by decide : (1 : Int32) ≤ 1) hI0; have hE9 := hU9.1; rw [c_21N] at hE9; exact ⟨Or.inr rfl, fun _ => eI_end hE9, by omega, by omega, by omega, fun i hi => by rw [hU9.2 i (by omega) (by omega)]; exact hu i hi, ⟨1 + j9, true, by rw [hF 1, show (1 : Nat) = 0 + 1 from rfl, eRun]; rw [if_pos c_3, if_pos c_4, if_pos c_21], rfl⟩⟩
            exact W.zret (v := 1) hx hb hr (rfl) (fun t ht hW => ⟨⟨1, ((m_X6_next_h019 td ftp za1), (m_X6_unwinds_h027 tx op1 yc yh 1 hm1 ou1), nI (m_X6_unwinds_h025 tx op1 yc yh 1 hm1 ou1), (m_X6_unwinds_h026 tx op1 yc yh 1 hm1 ou1), (m_X6_next_h020 td ftp za1), (m_X6_next_h021 td ftp fwo za1), (m_X6_next_h022 td ftp fwo za1), (m_X6_unwinds_cd tx op1 yc yh 1 hm1 ou1), yh), rfl, hpost, by rw [ht]; exact hP, va_K.moved hW.alike hK, hD⟩, hS.F ht⟩) hS.2.2 dX6_eRead_176
      · skip
        obtain ⟨hI1, hw1⟩ := eI_w1 hI c_3
        refine g_aget (D := G.1) (ci := 6) (v := .int (m_X6_next_h021 td ftp fwo za1)) (C := RX6) (T := TX6) (N := 42) hx hb dX6_eRead_22 rfl (lv_at hl 0 rfl) hts hiX6 hown hK hP 0 rfl rfl 21 (by decide +kernel) kf117 (fun _ h9 => h9) rfl dX6_eRead_23 ?_
        refine lv_iconst (v := 1) hx hb dX6_eRead_26 (by decide +kernel) ?_
        refine lv_icmp_eq (tgt := 38) hx hb dX6_eRead_27 (by decide +kernel) (fun c_22 => ?_) (fun c_22 => ?_)
        · skip
          refine lv_aload_n hx hb dX6_eRead_38 rfl (lv_at hl 0 rfl) ?_
          refine g_aget (D := G.1) (ci := 6) (v := .int (m_X6_next_h021 td ftp fwo za1)) (C := RX6) (T := TX6) (N := 42) hx hb dX6_eRead_39 rfl (lv_at hl 0 rfl) hts hiX6 hown hK hP 0 rfl rfl 21 (by decide +kernel) kf117 (fun _ h9 => h9) rfl dX6_eRead_40 ?_
          refine lv_iconst (v := 1) hx hb dX6_eRead_43 (by decide +kernel) ?_
          refine lv_icmp_ne (tgt := 57) hx hb dX6_eRead_44 (by decide +kernel) (fun c_23 => ?_) (fun c_23 => ?_)
          · exact absurd (c_22) c_23
          refine lv_ldc hx hb hown (hts (.constant RX6 153 (100000)) (by decide +kernel)) dX6_eRead_47 ?_
          refine g_aget (D := G.1) (ci := 6) (v := .int (m_X6_next_h022 td ftp fwo za1)) (C := RX6) (T := TX6) (N := 42) hx hb dX6_eRead_49 rfl (lv_at hl 0 rfl) hts hiX6 hown hK hP 0 rfl rfl 22 (by decide +kernel) kf120 (fun _ h9 => h9) rfl dX6_eRead_50 ?_
          refine lv_iadd hx hb dX6_eRead_53 ?_
          refine lv_goto (tgt := 61) hx hb dX6_eRead_54 (by decide +kernel) ?_
          refine z_callv [0, 1] (va_runV (As := [.int (100000 + (m_X6_next_h022 td ftp fwo za1))]) (rest := []) ⟨hx, hb, hml, hown, hts⟩ (c_X6_puts l G h0 kd mo st ro tp cd sr ir ih ss sq ce lw wo he sk na kp gb go fa ga vo pb jg td tx ru him (nI (m_X6_next_h019 td ftp za1)) (m_X6_next_h020 td ftp za1) (m_X6_next_h021 td ftp fwo za1) (m_X6_next_h022 td ftp fwo za1) (nI hm1) op1 s31 s32 s33 s34 s39 s40 yc (100000 + (m_X6_next_h022 td ftp fwo za1)) ou1 H.size (by first | exact hou | assumption | omega) (by first | exact htx | assumption | omega)) (cwV 1 hts gX6_eRead_X6_puts rfl rfl rfl (by decide +kernel) ⟨Nat.le_of_ble_eq_true rfl, Nat.le_of_ble_eq_true rfl⟩) ⟨gPre_blind, va_recv (q := (RX6, TX6, 42)) hK hP (ci := 6) (q0 := 0) rfl rfl, fun U hU hW => gPre_ofF [0, 1] hU hW hK hP hD (by decide +kernel) rfl⟩ rfl rfl hl.1 rfl (lv_room (Nat.le_of_ble_eq_true rfl)) dX6_eRead_61 ⟨Nat.le_of_ble_eq_true rfl, Nat.le_of_ble_eq_true rfl⟩) hS hD hA rfl (fun u t H locs ht hvm w_25 hB hz1 hk1 hFq hAq hS => ?_)
          obtain ⟨hP1, hK1, hD1⟩ := hB
          have hz9 : gPD G A [zo6 h0 (nI pb) kd mo st (nI jg) ro tp (nI td) cd sr (nI tx) (nI ru) him ir ih ss sq ce lw (nI (m_X6_next_h019 td ftp za1)) (m_X6_next_h020 td ftp za1) (m_X6_next_h021 td ftp fwo za1) (m_X6_next_h022 td ftp fwo za1) wo he (nI hm1) op1 (nI ((ou1 + 1))) sk na kp s31 s32 s33 s34 gb go fa ga s39 s40 vo, zi G cd 1200 (upd yc ((200 * tx) + ou1) (100000 + (m_X6_next_h022 td ftp fwo za1))), zi G he 200 yh, zi G tp 160 ftp, zi G wo 96 fwo] H := zFill hP hD [0, 1] [1, 2] hAq hk1 hFq ht hP1 hD1 rfl (by decide +kernel)
          have hP := hz9.1
          have hD := hz9.2
          refine lv_aload_n hx hb dX6_eRead_64 rfl (lv_at hl 0 rfl) ?_
          refine lv_bipush (v := 7) hx hb dX6_eRead_65 (by decide +kernel) ?_
          refine z_callv [0, 1, 2] (va_runV (As := [.int 7]) (rest := []) ⟨hx, hb, hml, hown, hts⟩ (c_X6_unwinds l G h0 kd mo st ro tp cd sr ir ih ss sq ce lw wo he sk na kp gb go fa ga vo pb jg td tx ru him (nI (m_X6_next_h019 td ftp za1)) (m_X6_next_h020 td ftp za1) (m_X6_next_h021 td ftp fwo za1) (m_X6_next_h022 td ftp fwo za1) op1 s31 s32 s33 s34 s39 s40 (upd yc ((200 * tx) + ou1) (100000 + (m_X6_next_h022 td ftp fwo za1))) yh 7 hm1 ((ou1 + 1)) H.size (by first | exact hom | assumption | omega) (by first | exact htx | assumption | omega)) (cwV 1 hts gX6_eRead_X6_unwinds rfl rfl rfl (by decide +kernel) ⟨Nat.le_of_ble_eq_true rfl, Nat.le_of_ble_eq_true rfl⟩) ⟨gPre_blind, va_recv (q := (RX6, TX6, 42)) hK hP (ci := 6) (q0 := 0) rfl rfl, fun U hU hW => gPre_ofF [0, 1, 2] hU hW hK hP hD (by decide +kernel) rfl⟩ rfl rfl hl.1 rfl (lv_room (Nat.le_of_ble_eq_true rfl)) dX6_eRead_67 ⟨Nat.le_of_ble_eq_true rfl, Nat.le_of_ble_eq_true rfl⟩) hS hD hA rfl (fun u t H locs ht hvm w_27 hB hz1 hk1 hFq hAq hS => ?_)
          obtain ⟨hP1, hK1, hD1⟩ := hB
          have w_27 : (m_X6_unwinds_h025 tx op1 (upd yc ((200 * tx) + ou1) (100000 + (m_X6_next_h022 td ftp fwo za1))) yh 7 hm1 ((ou1 + 1))) ≤ hm1 ∧ (m_X6_unwinds_h027 tx op1 (upd yc ((200 * tx) + ou1) (100000 + (m_X6_next_h022 td ftp fwo za1))) yh 7 hm1 ((ou1 + 1))) + (m_X6_unwinds_h025 tx op1 (upd yc ((200 * tx) + ou1) (100000 + (m_X6_next_h022 td ftp fwo za1))) yh 7 hm1 ((ou1 + 1))) = ((ou1 + 1)) + hm1 := w_27
          have hz9 : gPD G A [zo6 h0 (nI pb) kd mo st (nI jg) ro tp (nI td) cd sr (nI tx) (nI ru) him ir ih ss sq ce lw (nI (m_X6_next_h019 td ftp za1)) (m_X6_next_h020 td ftp za1) (m_X6_next_h021 td ftp fwo za1) (m_X6_next_h022 td ftp fwo za1) wo he (nI (m_X6_unwinds_h025 tx op1 (upd yc ((200 * tx) + ou1) (100000 + (m_X6_next_h022 td ftp fwo za1))) yh 7 hm1 ((ou1 + 1)))) (m_X6_unwinds_h026 tx op1 (upd yc ((200 * tx) + ou1) (100000 + (m_X6_next_h022 td ftp fwo za1))) yh 7 hm1 ((ou1 + 1))) (nI (m_X6_unwinds_h027 tx op1 (upd yc ((200 * tx) + ou1) (100000 + (m_X6_next_h022 td ftp fwo za1))) yh 7 hm1 ((ou1 + 1)))) sk na kp s31 s32 s33 s34 gb go fa ga s39 s40 vo, zi G cd 1200 (m_X6_unwinds_cd tx op1 (upd yc ((200 * tx) + ou1) (100000 + (m_X6_next_h022 td ftp fwo za1))) yh 7 hm1 ((ou1 + 1))), zi G he 200 yh, zi G tp 160 ftp, zi G wo 96 fwo] H := zFill hP hD [0, 1, 2] [1, 2, 3] hAq hk1 hFq ht hP1 hD1 rfl (by decide +kernel)
          have hP := hz9.1
          have hD := hz9.2
          have huw := w_27
          refine lv_iconst (v := 0) hx hb dX6_eRead_70 (by decide +kernel) ?_
          refine lv_istore_n (lv' := [zI 1 0, zR 0 h0, zI 2 mn]) hx hb dX6_eRead_71 rfl hl (by decide +kernel) rfl (fun ls hl => ?_)
          refine lv_goto (tgt := 14) hx hb dX6_eRead_72 (by decide +kernel) ?_
          have hgt := hn3 (fun z9 => absurd (c_22.symm.trans z9) (by decide +kernel))
          have hU := uw_use (s26 := op1) (by decide : (1 : Int32) ≤ 7) (eI_put hI1 (Or.inl (hn5 c_22)) (by omega))
          exact ih9 (m_X6_next_h019 td ftp za1) (m_X6_unwinds_h025 tx op1 (upd yc ((200 * tx) + ou1) (100000 + (m_X6_next_h022 td ftp fwo za1))) yh 7 hm1 ((ou1 + 1))) (m_X6_unwinds_h027 tx op1 (upd yc ((200 * tx) + ou1) (100000 + (m_X6_next_h022 td ftp fwo za1))) yh 7 hm1 ((ou1 + 1))) (m_X6_unwinds_h026 tx op1 (upd yc ((200 * tx) + ou1) (100000 + (m_X6_next_h022 td ftp fwo za1))) yh 7 hm1 ((ou1 + 1))) (m_X6_next_h020 td ftp za1) (m_X6_next_h021 td ftp fwo za1) (m_X6_next_h022 td ftp fwo za1) (m_X6_unwinds_cd tx op1 (upd yc ((200 * tx) + ou1) (100000 + (m_X6_next_h022 td ftp fwo za1))) yh 7 hm1 ((ou1 + 1))) yh 0 mn (j9 + 1) (⟨hn2, by omega⟩) (by omega) (Or.inr ⟨rfl, hU.1⟩) (fun i hi => by rw [hU.2 i (by omega) (by omega), upd_n9 (by omega)]; exact hu i hi) (fun q => by rw [show q + (j9 + 1) = (q + 1) + j9 by omega, hF (q + 1), eRun]; rw [if_neg c_3, if_pos c_22]) (by omega) _ _ hP hD hS ls (lv_sub hl [1, 0, 2] rfl)
        · skip
          refine g_aget (D := G.1) (ci := 6) (v := .int (m_X6_next_h021 td ftp fwo za1)) (C := RX6) (T := TX6) (N := 42) hx hb dX6_eRead_30 rfl (lv_at hl 0 rfl) hts hiX6 hown hK hP 0 rfl rfl 21 (by decide +kernel) kf117 (fun _ h9 => h9) rfl dX6_eRead_31 ?_
          refine lv_iconst (v := 2) hx hb dX6_eRead_34 (by decide +kernel) ?_
          refine lv_icmp_ne (tgt := 75) hx hb dX6_eRead_35 (by decide +kernel) (fun c_28 => ?_) (fun c_28 => ?_)
          · skip
            refine g_aget (D := G.1) (ci := 6) (v := .int (m_X6_next_h021 td ftp fwo za1)) (C := RX6) (T := TX6) (N := 42) hx hb dX6_eRead_75 rfl (lv_at hl 0 rfl) hts hiX6 hown hK hP 0 rfl rfl 21 (by decide +kernel) kf117 (fun _ h9 => h9) rfl dX6_eRead_76 ?_
            refine lv_bipush (v := 6) hx hb dX6_eRead_79 (by decide +kernel) ?_
            refine lv_icmp_ne (tgt := 99) hx hb dX6_eRead_81 (by decide +kernel) (fun c_29 => ?_) (fun c_29 => ?_)
            · skip
              refine g_aget (D := G.1) (ci := 6) (v := .int (m_X6_next_h021 td ftp fwo za1)) (C := RX6) (T := TX6) (N := 42) hx hb dX6_eRead_99 rfl (lv_at hl 0 rfl) hts hiX6 hown hK hP 0 rfl rfl 21 (by decide +kernel) kf117 (fun _ h9 => h9) rfl dX6_eRead_100 ?_
              refine lv_bipush (v := 45) hx hb dX6_eRead_103 (by decide +kernel) ?_
              refine lv_icmp_ne (tgt := 124) hx hb dX6_eRead_105 (by decide +kernel) (fun c_30 => ?_) (fun c_30 => ?_)
              · skip
                refine g_aget (D := G.1) (ci := 6) (v := .int (m_X6_next_h021 td ftp fwo za1)) (C := RX6) (T := TX6) (N := 42) hx hb dX6_eRead_124 rfl (lv_at hl 0 rfl) hts hiX6 hown hK hP 0 rfl rfl 21 (by decide +kernel) kf117 (fun _ h9 => h9) rfl dX6_eRead_125 ?_
                refine lv_bipush (v := 40) hx hb dX6_eRead_128 (by decide +kernel) ?_
                refine lv_icmp_ne (tgt := 148) hx hb dX6_eRead_130 (by decide +kernel) (fun c_31 => ?_) (fun c_31 => ?_)
                · skip
                  refine lv_iconst (v := 0) hx hb dX6_eRead_148 (by decide +kernel) ?_
                  have hpost : (fun (r : Int32) (u : Nat × Nat × Int32 × Int32 × Int32 × Int32 × Int32 × (Nat → Int32) × (Nat → Int32)) => match u with | (zza, zou, zhm, zop, zb, zt, zv, ycd, yhe) => (r = 0 ∨ r = 1) ∧ (r = 1 → dp (eF ycd tx) ou (zou - ou) = some 1) ∧ zza ≤ td ∧ zou + 1 ≤ zza ∧ ou ≤ zou ∧ (∀ i, (i < 200 * tx + ou ∨ 200 * tx + 200 ≤ i) → ycd i = fcd i) ∧ ∃ j9 b9, eRun tx td ftp fwo j9 za 0 ou 0 fcd fhe 1 1 = some (b9, zza, zou, zb, ycd, yhe) ∧ r = bz b9) 0 ((m_X6_next_h019 td ftp za1), ou1, (nI hm1), op1, (m_X6_next_h020 td ftp za1), (m_X6_next_h021 td ftp fwo za1), (m_X6_next_h022 td ftp fwo za1), yc, yh) := by exact ⟨Or.inl rfl, fun z => absurd z (by decide +kernel), by omega, by omega, by omega, hu, ⟨1 + j9, false, by rw [hF 1, show (1 : Nat) = 0 + 1 from rfl, eRun]; rw [if_neg c_3, if_neg c_22, if_neg c_28, if_neg c_29, if_neg c_30, if_neg c_31], rfl⟩⟩
                  exact W.zret (v := 0) hx hb hr (rfl) (fun t ht hW => ⟨⟨0, ((m_X6_next_h019 td ftp za1), ou1, (nI hm1), op1, (m_X6_next_h020 td ftp za1), (m_X6_next_h021 td ftp fwo za1), (m_X6_next_h022 td ftp fwo za1), yc, yh), rfl, hpost, by rw [ht]; exact hP, va_K.moved hW.alike hK, hD⟩, hS.F ht⟩) hS.2.2 dX6_eRead_149
                · skip
                  refine lv_aload_n hx hb dX6_eRead_133 rfl (lv_at hl 0 rfl) ?_
                  refine lv_iconst (v := 0) hx hb dX6_eRead_134 (by decide +kernel) ?_
                  refine z_calli [0, 2] (v := m_X6_opensOne op1) (fun _ _ h => h) (va_runV (As := [.int 0]) (rest := []) ⟨hx, hb, hml, hown, hts⟩ (c_X6_opensOne l G h0 kd mo st ro tp cd sr ir ih ss sq ce lw wo he sk na kp gb go fa ga vo pb jg td tx ru him (nI (m_X6_next_h019 td ftp za1)) (m_X6_next_h020 td ftp za1) (m_X6_next_h021 td ftp fwo za1) (m_X6_next_h022 td ftp fwo za1) op1 (nI ou1) s31 s32 s33 s34 s39 s40 yh 0 hm1 H.size (by first | exact hhm | assumption | omega)) (cwV 1 hts gX6_eRead_X6_opensOne rfl rfl rfl (by decide +kernel) ⟨Nat.le_of_ble_eq_true rfl, Nat.le_of_ble_eq_true rfl⟩) ⟨gPre_blind, va_recv (q := (RX6, TX6, 42)) hK hP (ci := 6) (q0 := 0) rfl rfl, fun U hU hW => gPre_ofF [0, 2] hU hW hK hP hD (by decide +kernel) rfl⟩ rfl rfl hl.1 rfl (lv_room (Nat.le_of_ble_eq_true rfl)) dX6_eRead_135 ⟨Nat.le_of_ble_eq_true rfl, Nat.le_of_ble_eq_true rfl⟩) hS hD hA rfl (fun u t H locs ht hvm hB hz1 hk1 hFq hAq hS => ?_)
                  obtain ⟨hP1, hK1, hD1⟩ := hB
                  have hz9 : gPD G A [zo6 h0 (nI pb) kd mo st (nI jg) ro tp (nI td) cd sr (nI tx) (nI ru) him ir ih ss sq ce lw (nI (m_X6_next_h019 td ftp za1)) (m_X6_next_h020 td ftp za1) (m_X6_next_h021 td ftp fwo za1) (m_X6_next_h022 td ftp fwo za1) wo he (nI (m_X6_opensOne_h025 op1 hm1)) (m_X6_opensOne_h026 op1) (nI ou1) sk na kp s31 s32 s33 s34 gb go fa ga s39 s40 vo, zi G cd 1200 yc, zi G he 200 (m_X6_opensOne_he op1 yh 0 hm1), zi G tp 160 ftp, zi G wo 96 fwo] H := zFill hP hD [0, 2] [1, 0, 2] hAq hk1 hFq ht hP1 hD1 rfl (by decide +kernel)
                  have hP := hz9.1
                  have hD := hz9.2
                  refine lv_if_ne (tgt := 143) hx hb dX6_eRead_138 (by decide +kernel) (fun c_34 => ?_) (fun c_34 => ?_)
                  · skip
                    refine lv_iconst (v := 1) hx hb dX6_eRead_143 (by decide +kernel) ?_
                    refine lv_istore_n (lv' := [zI 2 1, zR 0 h0, zI 1 wv]) hx hb dX6_eRead_144 rfl hl (by decide +kernel) rfl (fun ls hl => ?_)
                    refine lv_goto (tgt := 14) hx hb dX6_eRead_145 (by decide +kernel) ?_
                    have hgt := hn3 (fun z9 => absurd (c_31.symm.trans z9) (by decide +kernel))
                    obtain ⟨ho1, ho2⟩ := oo_use (yh := yh) (v := 0) (hm := hm1) c_34
                    exact ih9 (m_X6_next_h019 td ftp za1) (m_X6_opensOne_h025 op1 hm1) ou1 (m_X6_opensOne_h026 op1) (m_X6_next_h020 td ftp za1) (m_X6_next_h021 td ftp fwo za1) (m_X6_next_h022 td ftp fwo za1) yc (m_X6_opensOne_he op1 yh 0 hm1) wv 1 (j9 + 1) (⟨hn2, by omega⟩) (by omega) (Or.inl ⟨hw1, by rw [ho1, ho2]; exact hold_N (by decide +kernel) hI1⟩) (hu) (fun q => by rw [show q + (j9 + 1) = (q + 1) + j9 by omega, hF (q + 1), eRun]; rw [if_neg c_3, if_neg c_22, if_neg c_28, if_neg c_29, if_neg c_30, if_pos c_31, if_neg c_34]) (by omega) _ _ hP hD hS ls (lv_sub hl [1, 2, 0] rfl)
                  · skip
                    refine lv_iconst (v := 0) hx hb dX6_eRead_141 (by decide +kernel) ?_
                    have hpost : (fun (r : Int32) (u : Nat × Nat × Int32 × Int32 × Int32 × Int32 × Int32 × (Nat → Int32) × (Nat → Int32)) => match u with | (zza, zou, zhm, zop, zb, zt, zv, ycd, yhe) => (r = 0 ∨ r = 1) ∧ (r = 1 → dp (eF ycd tx) ou (zou - ou) = some 1) ∧ zza ≤ td ∧ zou + 1 ≤ zza ∧ ou ≤ zou ∧ (∀ i, (i < 200 * tx + ou ∨ 200 * tx + 200 ≤ i) → ycd i = fcd i) ∧ ∃ j9 b9, eRun tx td ftp fwo j9 za 0 ou 0 fcd fhe 1 1 = some (b9, zza, zou, zb, ycd, yhe) ∧ r = bz b9) 0 ((m_X6_next_h019 td ftp za1), ou1, nI (m_X6_opensOne_h025 op1 hm1), (m_X6_opensOne_h026 op1), (m_X6_next_h020 td ftp za1), (m_X6_next_h021 td ftp fwo za1), (m_X6_next_h022 td ftp fwo za1), yc, (m_X6_opensOne_he op1 yh 0 hm1)) := by exact ⟨Or.inl rfl, fun z => absurd z (by decide +kernel), by omega, by omega, by omega, hu, ⟨1 + j9, false, by rw [hF 1, show (1 : Nat) = 0 + 1 from rfl, eRun]; rw [if_neg c_3, if_neg c_22, if_neg c_28, if_neg c_29, if_neg c_30, if_pos c_31, if_pos c_34], rfl⟩⟩
                    exact W.zret (v := 0) hx hb hr (rfl) (fun t ht hW => ⟨⟨0, ((m_X6_next_h019 td ftp za1), ou1, nI (m_X6_opensOne_h025 op1 hm1), (m_X6_opensOne_h026 op1), (m_X6_next_h020 td ftp za1), (m_X6_next_h021 td ftp fwo za1), (m_X6_next_h022 td ftp fwo za1), yc, (m_X6_opensOne_he op1 yh 0 hm1)), rfl, hpost, by rw [ht]; exact hP, va_K.moved hW.alike hK, hD⟩, hS.F ht⟩) hS.2.2 dX6_eRead_142
              · skip
                refine lv_aload_n hx hb dX6_eRead_108 rfl (lv_at hl 0 rfl) ?_
                refine lv_bipush (v := 19) hx hb dX6_eRead_109 (by decide +kernel) ?_
                refine z_calli [0, 2] (v := m_X6_opensOne op1) (fun _ _ h => h) (va_runV (As := [.int 19]) (rest := []) ⟨hx, hb, hml, hown, hts⟩ (c_X6_opensOne l G h0 kd mo st ro tp cd sr ir ih ss sq ce lw wo he sk na kp gb go fa ga vo pb jg td tx ru him (nI (m_X6_next_h019 td ftp za1)) (m_X6_next_h020 td ftp za1) (m_X6_next_h021 td ftp fwo za1) (m_X6_next_h022 td ftp fwo za1) op1 (nI ou1) s31 s32 s33 s34 s39 s40 yh 19 hm1 H.size (by first | exact hhm | assumption | omega)) (cwV 1 hts gX6_eRead_X6_opensOne rfl rfl rfl (by decide +kernel) ⟨Nat.le_of_ble_eq_true rfl, Nat.le_of_ble_eq_true rfl⟩) ⟨gPre_blind, va_recv (q := (RX6, TX6, 42)) hK hP (ci := 6) (q0 := 0) rfl rfl, fun U hU hW => gPre_ofF [0, 2] hU hW hK hP hD (by decide +kernel) rfl⟩ rfl rfl hl.1 rfl (lv_room (Nat.le_of_ble_eq_true rfl)) dX6_eRead_111 ⟨Nat.le_of_ble_eq_true rfl, Nat.le_of_ble_eq_true rfl⟩) hS hD hA rfl (fun u t H locs ht hvm hB hz1 hk1 hFq hAq hS => ?_)
                obtain ⟨hP1, hK1, hD1⟩ := hB
                have hz9 : gPD G A [zo6 h0 (nI pb) kd mo st (nI jg) ro tp (nI td) cd sr (nI tx) (nI ru) him ir ih ss sq ce lw (nI (m_X6_next_h019 td ftp za1)) (m_X6_next_h020 td ftp za1) (m_X6_next_h021 td ftp fwo za1) (m_X6_next_h022 td ftp fwo za1) wo he (nI (m_X6_opensOne_h025 op1 hm1)) (m_X6_opensOne_h026 op1) (nI ou1) sk na kp s31 s32 s33 s34 gb go fa ga s39 s40 vo, zi G cd 1200 yc, zi G he 200 (m_X6_opensOne_he op1 yh 19 hm1), zi G tp 160 ftp, zi G wo 96 fwo] H := zFill hP hD [0, 2] [1, 0, 2] hAq hk1 hFq ht hP1 hD1 rfl (by decide +kernel)
                have hP := hz9.1
                have hD := hz9.2
                refine lv_if_ne (tgt := 119) hx hb dX6_eRead_114 (by decide +kernel) (fun c_37 => ?_) (fun c_37 => ?_)
                · skip
                  refine lv_iconst (v := 0) hx hb dX6_eRead_119 (by decide +kernel) ?_
                  refine lv_istore_n (lv' := [zI 2 0, zR 0 h0, zI 1 wv]) hx hb dX6_eRead_120 rfl hl (by decide +kernel) rfl (fun ls hl => ?_)
                  refine lv_goto (tgt := 14) hx hb dX6_eRead_121 (by decide +kernel) ?_
                  have hgt := hn3 (fun z9 => absurd (c_30.symm.trans z9) (by decide +kernel))
                  obtain ⟨ho1, ho2⟩ := oo_use (yh := yh) (v := 19) (hm := hm1) c_37
                  exact ih9 (m_X6_next_h019 td ftp za1) (m_X6_opensOne_h025 op1 hm1) ou1 (m_X6_opensOne_h026 op1) (m_X6_next_h020 td ftp za1) (m_X6_next_h021 td ftp fwo za1) (m_X6_next_h022 td ftp fwo za1) yc (m_X6_opensOne_he op1 yh 19 hm1) wv 0 (j9 + 1) (⟨hn2, by omega⟩) (by omega) (Or.inl ⟨hw1, by rw [ho1, ho2]; exact hold_N (by decide +kernel) hI1⟩) (hu) (fun q => by rw [show q + (j9 + 1) = (q + 1) + j9 by omega, hF (q + 1), eRun]; rw [if_neg c_3, if_neg c_22, if_neg c_28, if_neg c_29, if_pos c_30, if_neg c_37]) (by omega) _ _ hP hD hS ls (lv_sub hl [1, 2, 0] rfl)
                · skip
                  refine lv_iconst (v := 0) hx hb dX6_eRead_117 (by decide +kernel) ?_
                  have hpost : (fun (r : Int32) (u : Nat × Nat × Int32 × Int32 × Int32 × Int32 × Int32 × (Nat → Int32) × (Nat → Int32)) => match u with | (zza, zou, zhm, zop, zb, zt, zv, ycd, yhe) => (r = 0 ∨ r = 1) ∧ (r = 1 → dp (eF ycd tx) ou (zou - ou) = some 1) ∧ zza ≤ td ∧ zou + 1 ≤ zza ∧ ou ≤ zou ∧ (∀ i, (i < 200 * tx + ou ∨ 200 * tx + 200 ≤ i) → ycd i = fcd i) ∧ ∃ j9 b9, eRun tx td ftp fwo j9 za 0 ou 0 fcd fhe 1 1 = some (b9, zza, zou, zb, ycd, yhe) ∧ r = bz b9) 0 ((m_X6_next_h019 td ftp za1), ou1, nI (m_X6_opensOne_h025 op1 hm1), (m_X6_opensOne_h026 op1), (m_X6_next_h020 td ftp za1), (m_X6_next_h021 td ftp fwo za1), (m_X6_next_h022 td ftp fwo za1), yc, (m_X6_opensOne_he op1 yh 19 hm1)) := by exact ⟨Or.inl rfl, fun z => absurd z (by decide +kernel), by omega, by omega, by omega, hu, ⟨1 + j9, false, by rw [hF 1, show (1 : Nat) = 0 + 1 from rfl, eRun]; rw [if_neg c_3, if_neg c_22, if_neg c_28, if_neg c_29, if_pos c_30, if_pos c_37], rfl⟩⟩
                  exact W.zret (v := 0) hx hb hr (rfl) (fun t ht hW => ⟨⟨0, ((m_X6_next_h019 td ftp za1), ou1, nI (m_X6_opensOne_h025 op1 hm1), (m_X6_opensOne_h026 op1), (m_X6_next_h020 td ftp za1), (m_X6_next_h021 td ftp fwo za1), (m_X6_next_h022 td ftp fwo za1), yc, (m_X6_opensOne_he op1 yh 19 hm1)), rfl, hpost, by rw [ht]; exact hP, va_K.moved hW.alike hK, hD⟩, hS.F ht⟩) hS.2.2 dX6_eRead_118
            · skip
              refine lv_iload_n hx hb dX6_eRead_84 rfl (lv_at hl 2 rfl) ?_
              refine lv_if_eq (tgt := 99) hx hb dX6_eRead_85 (by decide +kernel) (fun c_38 => ?_) (fun c_38 => ?_)
              · skip
                refine g_aget (D := G.1) (ci := 6) (v := .int (m_X6_next_h021 td ftp fwo za1)) (C := RX6) (T := TX6) (N := 42) hx hb dX6_eRead_99 rfl (lv_at hl 0 rfl) hts hiX6 hown hK hP 0 rfl rfl 21 (by decide +kernel) kf117 (fun _ h9 => h9) rfl dX6_eRead_100 ?_
                refine lv_bipush (v := 45) hx hb dX6_eRead_103 (by decide +kernel) ?_
                refine lv_icmp_ne (tgt := 124) hx hb dX6_eRead_105 (by decide +kernel) (fun c_39 => ?_) (fun c_39 => ?_)
                · skip
                  refine g_aget (D := G.1) (ci := 6) (v := .int (m_X6_next_h021 td ftp fwo za1)) (C := RX6) (T := TX6) (N := 42) hx hb dX6_eRead_124 rfl (lv_at hl 0 rfl) hts hiX6 hown hK hP 0 rfl rfl 21 (by decide +kernel) kf117 (fun _ h9 => h9) rfl dX6_eRead_125 ?_
                  refine lv_bipush (v := 40) hx hb dX6_eRead_128 (by decide +kernel) ?_
                  refine lv_icmp_ne (tgt := 148) hx hb dX6_eRead_130 (by decide +kernel) (fun c_40 => ?_) (fun c_40 => ?_)
                  · skip
                    refine lv_iconst (v := 0) hx hb dX6_eRead_148 (by decide +kernel) ?_
                    have hpost : (fun (r : Int32) (u : Nat × Nat × Int32 × Int32 × Int32 × Int32 × Int32 × (Nat → Int32) × (Nat → Int32)) => match u with | (zza, zou, zhm, zop, zb, zt, zv, ycd, yhe) => (r = 0 ∨ r = 1) ∧ (r = 1 → dp (eF ycd tx) ou (zou - ou) = some 1) ∧ zza ≤ td ∧ zou + 1 ≤ zza ∧ ou ≤ zou ∧ (∀ i, (i < 200 * tx + ou ∨ 200 * tx + 200 ≤ i) → ycd i = fcd i) ∧ ∃ j9 b9, eRun tx td ftp fwo j9 za 0 ou 0 fcd fhe 1 1 = some (b9, zza, zou, zb, ycd, yhe) ∧ r = bz b9) 0 ((m_X6_next_h019 td ftp za1), ou1, (nI hm1), op1, (m_X6_next_h020 td ftp za1), (m_X6_next_h021 td ftp fwo za1), (m_X6_next_h022 td ftp fwo za1), yc, yh) := by exact ⟨Or.inl rfl, fun z => absurd z (by decide +kernel), by omega, by omega, by omega, hu, ⟨1 + j9, false, by rw [hF 1, show (1 : Nat) = 0 + 1 from rfl, eRun]; rw [if_neg c_3, if_neg c_22, if_neg c_28, if_pos c_29, if_pos c_38, if_neg c_39, if_neg c_40], rfl⟩⟩
                    exact W.zret (v := 0) hx hb hr (rfl) (fun t ht hW => ⟨⟨0, ((m_X6_next_h019 td ftp za1), ou1, (nI hm1), op1, (m_X6_next_h020 td ftp za1), (m_X6_next_h021 td ftp fwo za1), (m_X6_next_h022 td ftp fwo za1), yc, yh), rfl, hpost, by rw [ht]; exact hP, va_K.moved hW.alike hK, hD⟩, hS.F ht⟩) hS.2.2 dX6_eRead_149
                  · skip
                    refine lv_aload_n hx hb dX6_eRead_133 rfl (lv_at hl 0 rfl) ?_
                    refine lv_iconst (v := 0) hx hb dX6_eRead_134 (by decide +kernel) ?_
                    refine z_calli [0, 2] (v := m_X6_opensOne op1) (fun _ _ h => h) (va_runV (As := [.int 0]) (rest := []) ⟨hx, hb, hml, hown, hts⟩ (c_X6_opensOne l G h0 kd mo st ro tp cd sr ir ih ss sq ce lw wo he sk na kp gb go fa ga vo pb jg td tx ru him (nI (m_X6_next_h019 td ftp za1)) (m_X6_next_h020 td ftp za1) (m_X6_next_h021 td ftp fwo za1) (m_X6_next_h022 td ftp fwo za1) op1 (nI ou1) s31 s32 s33 s34 s39 s40 yh 0 hm1 H.size (by first | exact hhm | assumption | omega)) (cwV 1 hts gX6_eRead_X6_opensOne rfl rfl rfl (by decide +kernel) ⟨Nat.le_of_ble_eq_true rfl, Nat.le_of_ble_eq_true rfl⟩) ⟨gPre_blind, va_recv (q := (RX6, TX6, 42)) hK hP (ci := 6) (q0 := 0) rfl rfl, fun U hU hW => gPre_ofF [0, 2] hU hW hK hP hD (by decide +kernel) rfl⟩ rfl rfl hl.1 rfl (lv_room (Nat.le_of_ble_eq_true rfl)) dX6_eRead_135 ⟨Nat.le_of_ble_eq_true rfl, Nat.le_of_ble_eq_true rfl⟩) hS hD hA rfl (fun u t H locs ht hvm hB hz1 hk1 hFq hAq hS => ?_)
                    obtain ⟨hP1, hK1, hD1⟩ := hB
                    have hz9 : gPD G A [zo6 h0 (nI pb) kd mo st (nI jg) ro tp (nI td) cd sr (nI tx) (nI ru) him ir ih ss sq ce lw (nI (m_X6_next_h019 td ftp za1)) (m_X6_next_h020 td ftp za1) (m_X6_next_h021 td ftp fwo za1) (m_X6_next_h022 td ftp fwo za1) wo he (nI (m_X6_opensOne_h025 op1 hm1)) (m_X6_opensOne_h026 op1) (nI ou1) sk na kp s31 s32 s33 s34 gb go fa ga s39 s40 vo, zi G cd 1200 yc, zi G he 200 (m_X6_opensOne_he op1 yh 0 hm1), zi G tp 160 ftp, zi G wo 96 fwo] H := zFill hP hD [0, 2] [1, 0, 2] hAq hk1 hFq ht hP1 hD1 rfl (by decide +kernel)
                    have hP := hz9.1
                    have hD := hz9.2
                    refine lv_if_ne (tgt := 143) hx hb dX6_eRead_138 (by decide +kernel) (fun c_43 => ?_) (fun c_43 => ?_)
                    · skip
                      refine lv_iconst (v := 1) hx hb dX6_eRead_143 (by decide +kernel) ?_
                      refine lv_istore_n (lv' := [zI 2 1, zR 0 h0, zI 1 wv]) hx hb dX6_eRead_144 rfl hl (by decide +kernel) rfl (fun ls hl => ?_)
                      refine lv_goto (tgt := 14) hx hb dX6_eRead_145 (by decide +kernel) ?_
                      have hgt := hn3 (fun z9 => absurd (c_40.symm.trans z9) (by decide +kernel))
                      obtain ⟨ho1, ho2⟩ := oo_use (yh := yh) (v := 0) (hm := hm1) c_43
                      exact ih9 (m_X6_next_h019 td ftp za1) (m_X6_opensOne_h025 op1 hm1) ou1 (m_X6_opensOne_h026 op1) (m_X6_next_h020 td ftp za1) (m_X6_next_h021 td ftp fwo za1) (m_X6_next_h022 td ftp fwo za1) yc (m_X6_opensOne_he op1 yh 0 hm1) wv 1 (j9 + 1) (⟨hn2, by omega⟩) (by omega) (Or.inl ⟨hw1, by rw [ho1, ho2]; exact hold_N (by decide +kernel) hI1⟩) (hu) (fun q => by rw [show q + (j9 + 1) = (q + 1) + j9 by omega, hF (q + 1), eRun]; rw [if_neg c_3, if_neg c_22, if_neg c_28, if_pos c_29, if_pos c_38, if_neg c_39, if_pos c_40, if_neg c_43]) (by omega) _ _ hP hD hS ls (lv_sub hl [1, 2, 0] rfl)
                    · skip
                      refine lv_iconst (v := 0) hx hb dX6_eRead_141 (by decide +kernel) ?_
                      have hpost : (fun (r : Int32) (u : Nat × Nat × Int32 × Int32 × Int32 × Int32 × Int32 × (Nat → Int32) × (Nat → Int32)) => match u with | (zza, zou, zhm, zop, zb, zt, zv, ycd, yhe) => (r = 0 ∨ r = 1) ∧ (r = 1 → dp (eF ycd tx) ou (zou - ou) = some 1) ∧ zza ≤ td ∧ zou + 1 ≤ zza ∧ ou ≤ zou ∧ (∀ i, (i < 200 * tx + ou ∨ 200 * tx + 200 ≤ i) → ycd i = fcd i) ∧ ∃ j9 b9, eRun tx td ftp fwo j9 za 0 ou 0 fcd fhe 1 1 = some (b9, zza, zou, zb, ycd, yhe) ∧ r = bz b9) 0 ((m_X6_next_h019 td ftp za1), ou1, nI (m_X6_opensOne_h025 op1 hm1), (m_X6_opensOne_h026 op1), (m_X6_next_h020 td ftp za1), (m_X6_next_h021 td ftp fwo za1), (m_X6_next_h022 td ftp fwo za1), yc, (m_X6_opensOne_he op1 yh 0 hm1)) := by exact ⟨Or.inl rfl, fun z => absurd z (by decide +kernel), by omega, by omega, by omega, hu, ⟨1 + j9, false, by rw [hF 1, show (1 : Nat) = 0 + 1 from rfl, eRun]; rw [if_neg c_3, if_neg c_22, if_neg c_28, if_pos c_29, if_pos c_38, if_neg c_39, if_pos c_40, if_pos c_43], rfl⟩⟩
                      exact W.zret (v := 0) hx hb hr (rfl) (fun t ht hW => ⟨⟨0, ((m_X6_next_h019 td ftp za1), ou1, nI (m_X6_opensOne_h025 op1 hm1), (m_X6_opensOne_h026 op1), (m_X6_next_h020 td ftp za1), (m_X6_next_h021 td ftp fwo za1), (m_X6_next_h022 td ftp fwo za1), yc, (m_X6_opensOne_he op1 yh 0 hm1)), rfl, hpost, by rw [ht]; exact hP, va_K.moved hW.alike hK, hD⟩, hS.F ht⟩) hS.2.2 dX6_eRead_142
                · skip
                  refine lv_aload_n hx hb dX6_eRead_108 rfl (lv_at hl 0 rfl) ?_
                  refine lv_bipush (v := 19) hx hb dX6_eRead_109 (by decide +kernel) ?_
                  refine z_calli [0, 2] (v := m_X6_opensOne op1) (fun _ _ h => h) (va_runV (As := [.int 19]) (rest := []) ⟨hx, hb, hml, hown, hts⟩ (c_X6_opensOne l G h0 kd mo st ro tp cd sr ir ih ss sq ce lw wo he sk na kp gb go fa ga vo pb jg td tx ru him (nI (m_X6_next_h019 td ftp za1)) (m_X6_next_h020 td ftp za1) (m_X6_next_h021 td ftp fwo za1) (m_X6_next_h022 td ftp fwo za1) op1 (nI ou1) s31 s32 s33 s34 s39 s40 yh 19 hm1 H.size (by first | exact hhm | assumption | omega)) (cwV 1 hts gX6_eRead_X6_opensOne rfl rfl rfl (by decide +kernel) ⟨Nat.le_of_ble_eq_true rfl, Nat.le_of_ble_eq_true rfl⟩) ⟨gPre_blind, va_recv (q := (RX6, TX6, 42)) hK hP (ci := 6) (q0 := 0) rfl rfl, fun U hU hW => gPre_ofF [0, 2] hU hW hK hP hD (by decide +kernel) rfl⟩ rfl rfl hl.1 rfl (lv_room (Nat.le_of_ble_eq_true rfl)) dX6_eRead_111 ⟨Nat.le_of_ble_eq_true rfl, Nat.le_of_ble_eq_true rfl⟩) hS hD hA rfl (fun u t H locs ht hvm hB hz1 hk1 hFq hAq hS => ?_)
                  obtain ⟨hP1, hK1, hD1⟩ := hB
                  have hz9 : gPD G A [zo6 h0 (nI pb) kd mo st (nI jg) ro tp (nI td) cd sr (nI tx) (nI ru) him ir ih ss sq ce lw (nI (m_X6_next_h019 td ftp za1)) (m_X6_next_h020 td ftp za1) (m_X6_next_h021 td ftp fwo za1) (m_X6_next_h022 td ftp fwo za1) wo he (nI (m_X6_opensOne_h025 op1 hm1)) (m_X6_opensOne_h026 op1) (nI ou1) sk na kp s31 s32 s33 s34 gb go fa ga s39 s40 vo, zi G cd 1200 yc, zi G he 200 (m_X6_opensOne_he op1 yh 19 hm1), zi G tp 160 ftp, zi G wo 96 fwo] H := zFill hP hD [0, 2] [1, 0, 2] hAq hk1 hFq ht hP1 hD1 rfl (by decide +kernel)
                  have hP := hz9.1
                  have hD := hz9.2
                  refine lv_if_ne (tgt := 119) hx hb dX6_eRead_114 (by decide +kernel) (fun c_46 => ?_) (fun c_46 => ?_)
                  · skip
                    refine lv_iconst (v := 0) hx hb dX6_eRead_119 (by decide +kernel) ?_
                    refine lv_istore_n (lv' := [zI 2 0, zR 0 h0, zI 1 wv]) hx hb dX6_eRead_120 rfl hl (by decide +kernel) rfl (fun ls hl => ?_)
                    refine lv_goto (tgt := 14) hx hb dX6_eRead_121 (by decide +kernel) ?_
                    have hgt := hn3 (fun z9 => absurd (c_39.symm.trans z9) (by decide +kernel))
                    obtain ⟨ho1, ho2⟩ := oo_use (yh := yh) (v := 19) (hm := hm1) c_46
                    exact ih9 (m_X6_next_h019 td ftp za1) (m_X6_opensOne_h025 op1 hm1) ou1 (m_X6_opensOne_h026 op1) (m_X6_next_h020 td ftp za1) (m_X6_next_h021 td ftp fwo za1) (m_X6_next_h022 td ftp fwo za1) yc (m_X6_opensOne_he op1 yh 19 hm1) wv 0 (j9 + 1) (⟨hn2, by omega⟩) (by omega) (Or.inl ⟨hw1, by rw [ho1, ho2]; exact hold_N (by decide +kernel) hI1⟩) (hu) (fun q => by rw [show q + (j9 + 1) = (q + 1) + j9 by omega, hF (q + 1), eRun]; rw [if_neg c_3, if_neg c_22, if_neg c_28, if_pos c_29, if_pos c_38, if_pos c_39, if_neg c_46]) (by omega) _ _ hP hD hS ls (lv_sub hl [1, 2, 0] rfl)
                  · skip
                    refine lv_iconst (v := 0) hx hb dX6_eRead_117 (by decide +kernel) ?_
                    have hpost : (fun (r : Int32) (u : Nat × Nat × Int32 × Int32 × Int32 × Int32 × Int32 × (Nat → Int32) × (Nat → Int32)) => match u with | (zza, zou, zhm, zop, zb, zt, zv, ycd, yhe) => (r = 0 ∨ r = 1) ∧ (r = 1 → dp (eF ycd tx) ou (zou - ou) = some 1) ∧ zza ≤ td ∧ zou + 1 ≤ zza ∧ ou ≤ zou ∧ (∀ i, (i < 200 * tx + ou ∨ 200 * tx + 200 ≤ i) → ycd i = fcd i) ∧ ∃ j9 b9, eRun tx td ftp fwo j9 za 0 ou 0 fcd fhe 1 1 = some (b9, zza, zou, zb, ycd, yhe) ∧ r = bz b9) 0 ((m_X6_next_h019 td ftp za1), ou1, nI (m_X6_opensOne_h025 op1 hm1), (m_X6_opensOne_h026 op1), (m_X6_next_h020 td ftp za1), (m_X6_next_h021 td ftp fwo za1), (m_X6_next_h022 td ftp fwo za1), yc, (m_X6_opensOne_he op1 yh 19 hm1)) := by exact ⟨Or.inl rfl, fun z => absurd z (by decide +kernel), by omega, by omega, by omega, hu, ⟨1 + j9, false, by rw [hF 1, show (1 : Nat) = 0 + 1 from rfl, eRun]; rw [if_neg c_3, if_neg c_22, if_neg c_28, if_pos c_29, if_pos c_38, if_pos c_39, if_pos c_46], rfl⟩⟩
                    exact W.zret (v := 0) hx hb hr (rfl) (fun t ht hW => ⟨⟨0, ((m_X6_next_h019 td ftp za1), ou1, nI (m_X6_opensOne_h025 op1 hm1), (m_X6_opensOne_h026 op1), (m_X6_next_h020 td ftp za1), (m_X6_next_h021 td ftp fwo za1), (m_X6_next_h022 td ftp fwo za1), yc, (m_X6_opensOne_he op1 yh 19 hm1)), rfl, hpost, by rw [ht]; exact hP, va_K.moved hW.alike hK, hD⟩, hS.F ht⟩) hS.2.2 dX6_eRead_118
              · skip
                refine lv_aload_n hx hb dX6_eRead_88 rfl (lv_at hl 0 rfl) ?_
                refine lv_bipush (v := 13) hx hb dX6_eRead_89 (by decide +kernel) ?_
                refine z_calli [0, 2] (v := m_X6_opensOne op1) (fun _ _ h => h) (va_runV (As := [.int 13]) (rest := []) ⟨hx, hb, hml, hown, hts⟩ (c_X6_opensOne l G h0 kd mo st ro tp cd sr ir ih ss sq ce lw wo he sk na kp gb go fa ga vo pb jg td tx ru him (nI (m_X6_next_h019 td ftp za1)) (m_X6_next_h020 td ftp za1) (m_X6_next_h021 td ftp fwo za1) (m_X6_next_h022 td ftp fwo za1) op1 (nI ou1) s31 s32 s33 s34 s39 s40 yh 13 hm1 H.size (by first | exact hhm | assumption | omega)) (cwV 1 hts gX6_eRead_X6_opensOne rfl rfl rfl (by decide +kernel) ⟨Nat.le_of_ble_eq_true rfl, Nat.le_of_ble_eq_true rfl⟩) ⟨gPre_blind, va_recv (q := (RX6, TX6, 42)) hK hP (ci := 6) (q0 := 0) rfl rfl, fun U hU hW => gPre_ofF [0, 2] hU hW hK hP hD (by decide +kernel) rfl⟩ rfl rfl hl.1 rfl (lv_room (Nat.le_of_ble_eq_true rfl)) dX6_eRead_91 ⟨Nat.le_of_ble_eq_true rfl, Nat.le_of_ble_eq_true rfl⟩) hS hD hA rfl (fun u t H locs ht hvm hB hz1 hk1 hFq hAq hS => ?_)
                obtain ⟨hP1, hK1, hD1⟩ := hB
                have hz9 : gPD G A [zo6 h0 (nI pb) kd mo st (nI jg) ro tp (nI td) cd sr (nI tx) (nI ru) him ir ih ss sq ce lw (nI (m_X6_next_h019 td ftp za1)) (m_X6_next_h020 td ftp za1) (m_X6_next_h021 td ftp fwo za1) (m_X6_next_h022 td ftp fwo za1) wo he (nI (m_X6_opensOne_h025 op1 hm1)) (m_X6_opensOne_h026 op1) (nI ou1) sk na kp s31 s32 s33 s34 gb go fa ga s39 s40 vo, zi G cd 1200 yc, zi G he 200 (m_X6_opensOne_he op1 yh 13 hm1), zi G tp 160 ftp, zi G wo 96 fwo] H := zFill hP hD [0, 2] [1, 0, 2] hAq hk1 hFq ht hP1 hD1 rfl (by decide +kernel)
                have hP := hz9.1
                have hD := hz9.2
                refine lv_if_ne (tgt := 14) hx hb dX6_eRead_94 (by decide +kernel) (fun c_49 => ?_) (fun c_49 => ?_)
                · skip
                  have hgt := hn3 (fun z9 => absurd (c_29.symm.trans z9) (by decide +kernel))
                  obtain ⟨ho1, ho2⟩ := oo_use (yh := yh) (v := 13) (hm := hm1) c_49
                  exact ih9 (m_X6_next_h019 td ftp za1) (m_X6_opensOne_h025 op1 hm1) ou1 (m_X6_opensOne_h026 op1) (m_X6_next_h020 td ftp za1) (m_X6_next_h021 td ftp fwo za1) (m_X6_next_h022 td ftp fwo za1) yc (m_X6_opensOne_he op1 yh 13 hm1) wv mn (j9 + 1) (⟨hn2, by omega⟩) (by omega) (Or.inl ⟨hw1, by rw [ho1, ho2]; exact hold_N (by decide +kernel) hI1⟩) (hu) (fun q => by rw [show q + (j9 + 1) = (q + 1) + j9 by omega, hF (q + 1), eRun]; rw [if_neg c_3, if_neg c_22, if_neg c_28, if_pos c_29, if_neg c_38, if_neg c_49]) (by omega) _ _ hP hD hS ls hl
                · skip
                  refine lv_iconst (v := 0) hx hb dX6_eRead_97 (by decide +kernel) ?_
                  have hpost : (fun (r : Int32) (u : Nat × Nat × Int32 × Int32 × Int32 × Int32 × Int32 × (Nat → Int32) × (Nat → Int32)) => match u with | (zza, zou, zhm, zop, zb, zt, zv, ycd, yhe) => (r = 0 ∨ r = 1) ∧ (r = 1 → dp (eF ycd tx) ou (zou - ou) = some 1) ∧ zza ≤ td ∧ zou + 1 ≤ zza ∧ ou ≤ zou ∧ (∀ i, (i < 200 * tx + ou ∨ 200 * tx + 200 ≤ i) → ycd i = fcd i) ∧ ∃ j9 b9, eRun tx td ftp fwo j9 za 0 ou 0 fcd fhe 1 1 = some (b9, zza, zou, zb, ycd, yhe) ∧ r = bz b9) 0 ((m_X6_next_h019 td ftp za1), ou1, nI (m_X6_opensOne_h025 op1 hm1), (m_X6_opensOne_h026 op1), (m_X6_next_h020 td ftp za1), (m_X6_next_h021 td ftp fwo za1), (m_X6_next_h022 td ftp fwo za1), yc, (m_X6_opensOne_he op1 yh 13 hm1)) := by exact ⟨Or.inl rfl, fun z => absurd z (by decide +kernel), by omega, by omega, by omega, hu, ⟨1 + j9, false, by rw [hF 1, show (1 : Nat) = 0 + 1 from rfl, eRun]; rw [if_neg c_3, if_neg c_22, if_neg c_28, if_pos c_29, if_neg c_38, if_pos c_49], rfl⟩⟩
                  exact W.zret (v := 0) hx hb hr (rfl) (fun t ht hW => ⟨⟨0, ((m_X6_next_h019 td ftp za1), ou1, nI (m_X6_opensOne_h025 op1 hm1), (m_X6_opensOne_h026 op1), (m_X6_next_h020 td ftp za1), (m_X6_next_h021 td ftp fwo za1), (m_X6_next_h022 td ftp fwo za1), yc, (m_X6_opensOne_he op1 yh 13 hm1)), rfl, hpost, by rw [ht]; exact hP, va_K.moved hW.alike hK, hD⟩, hS.F ht⟩) hS.2.2 dX6_eRead_98
          · skip
            refine lv_aload_n hx hb dX6_eRead_38 rfl (lv_at hl 0 rfl) ?_
            refine g_aget (D := G.1) (ci := 6) (v := .int (m_X6_next_h021 td ftp fwo za1)) (C := RX6) (T := TX6) (N := 42) hx hb dX6_eRead_39 rfl (lv_at hl 0 rfl) hts hiX6 hown hK hP 0 rfl rfl 21 (by decide +kernel) kf117 (fun _ h9 => h9) rfl dX6_eRead_40 ?_
            refine lv_iconst (v := 1) hx hb dX6_eRead_43 (by decide +kernel) ?_
            refine lv_icmp_ne (tgt := 57) hx hb dX6_eRead_44 (by decide +kernel) (fun c_50 => ?_) (fun c_50 => ?_)
            rotate_left
            · exact absurd c_50 (c_22)
            refine g_aget (D := G.1) (ci := 6) (v := .int (m_X6_next_h022 td ftp fwo za1)) (C := RX6) (T := TX6) (N := 42) hx hb dX6_eRead_57 rfl (lv_at hl 0 rfl) hts hiX6 hown hK hP 0 rfl rfl 22 (by decide +kernel) kf120 (fun _ h9 => h9) rfl dX6_eRead_58 ?_
            refine z_callv [0, 1] (va_runV (As := [.int (m_X6_next_h022 td ftp fwo za1)]) (rest := []) ⟨hx, hb, hml, hown, hts⟩ (c_X6_puts l G h0 kd mo st ro tp cd sr ir ih ss sq ce lw wo he sk na kp gb go fa ga vo pb jg td tx ru him (nI (m_X6_next_h019 td ftp za1)) (m_X6_next_h020 td ftp za1) (m_X6_next_h021 td ftp fwo za1) (m_X6_next_h022 td ftp fwo za1) (nI hm1) op1 s31 s32 s33 s34 s39 s40 yc (m_X6_next_h022 td ftp fwo za1) ou1 H.size (by first | exact hou | assumption | omega) (by first | exact htx | assumption | omega)) (cwV 1 hts gX6_eRead_X6_puts rfl rfl rfl (by decide +kernel) ⟨Nat.le_of_ble_eq_true rfl, Nat.le_of_ble_eq_true rfl⟩) ⟨gPre_blind, va_recv (q := (RX6, TX6, 42)) hK hP (ci := 6) (q0 := 0) rfl rfl, fun U hU hW => gPre_ofF [0, 1] hU hW hK hP hD (by decide +kernel) rfl⟩ rfl rfl hl.1 rfl (lv_room (Nat.le_of_ble_eq_true rfl)) dX6_eRead_61 ⟨Nat.le_of_ble_eq_true rfl, Nat.le_of_ble_eq_true rfl⟩) hS hD hA rfl (fun u t H locs ht hvm w_52 hB hz1 hk1 hFq hAq hS => ?_)
            obtain ⟨hP1, hK1, hD1⟩ := hB
            have hz9 : gPD G A [zo6 h0 (nI pb) kd mo st (nI jg) ro tp (nI td) cd sr (nI tx) (nI ru) him ir ih ss sq ce lw (nI (m_X6_next_h019 td ftp za1)) (m_X6_next_h020 td ftp za1) (m_X6_next_h021 td ftp fwo za1) (m_X6_next_h022 td ftp fwo za1) wo he (nI hm1) op1 (nI ((ou1 + 1))) sk na kp s31 s32 s33 s34 gb go fa ga s39 s40 vo, zi G cd 1200 (upd yc ((200 * tx) + ou1) (m_X6_next_h022 td ftp fwo za1)), zi G he 200 yh, zi G tp 160 ftp, zi G wo 96 fwo] H := zFill hP hD [0, 1] [1, 2] hAq hk1 hFq ht hP1 hD1 rfl (by decide +kernel)
            have hP := hz9.1
            have hD := hz9.2
            refine lv_aload_n hx hb dX6_eRead_64 rfl (lv_at hl 0 rfl) ?_
            refine lv_bipush (v := 7) hx hb dX6_eRead_65 (by decide +kernel) ?_
            refine z_callv [0, 1, 2] (va_runV (As := [.int 7]) (rest := []) ⟨hx, hb, hml, hown, hts⟩ (c_X6_unwinds l G h0 kd mo st ro tp cd sr ir ih ss sq ce lw wo he sk na kp gb go fa ga vo pb jg td tx ru him (nI (m_X6_next_h019 td ftp za1)) (m_X6_next_h020 td ftp za1) (m_X6_next_h021 td ftp fwo za1) (m_X6_next_h022 td ftp fwo za1) op1 s31 s32 s33 s34 s39 s40 (upd yc ((200 * tx) + ou1) (m_X6_next_h022 td ftp fwo za1)) yh 7 hm1 ((ou1 + 1)) H.size (by first | exact hom | assumption | omega) (by first | exact htx | assumption | omega)) (cwV 1 hts gX6_eRead_X6_unwinds rfl rfl rfl (by decide +kernel) ⟨Nat.le_of_ble_eq_true rfl, Nat.le_of_ble_eq_true rfl⟩) ⟨gPre_blind, va_recv (q := (RX6, TX6, 42)) hK hP (ci := 6) (q0 := 0) rfl rfl, fun U hU hW => gPre_ofF [0, 1, 2] hU hW hK hP hD (by decide +kernel) rfl⟩ rfl rfl hl.1 rfl (lv_room (Nat.le_of_ble_eq_true rfl)) dX6_eRead_67 ⟨Nat.le_of_ble_eq_true rfl, Nat.le_of_ble_eq_true rfl⟩) hS hD hA rfl (fun u t H locs ht hvm w_54 hB hz1 hk1 hFq hAq hS => ?_)
            obtain ⟨hP1, hK1, hD1⟩ := hB
            have w_54 : (m_X6_unwinds_h025 tx op1 (upd yc ((200 * tx) + ou1) (m_X6_next_h022 td ftp fwo za1)) yh 7 hm1 ((ou1 + 1))) ≤ hm1 ∧ (m_X6_unwinds_h027 tx op1 (upd yc ((200 * tx) + ou1) (m_X6_next_h022 td ftp fwo za1)) yh 7 hm1 ((ou1 + 1))) + (m_X6_unwinds_h025 tx op1 (upd yc ((200 * tx) + ou1) (m_X6_next_h022 td ftp fwo za1)) yh 7 hm1 ((ou1 + 1))) = ((ou1 + 1)) + hm1 := w_54
            have hz9 : gPD G A [zo6 h0 (nI pb) kd mo st (nI jg) ro tp (nI td) cd sr (nI tx) (nI ru) him ir ih ss sq ce lw (nI (m_X6_next_h019 td ftp za1)) (m_X6_next_h020 td ftp za1) (m_X6_next_h021 td ftp fwo za1) (m_X6_next_h022 td ftp fwo za1) wo he (nI (m_X6_unwinds_h025 tx op1 (upd yc ((200 * tx) + ou1) (m_X6_next_h022 td ftp fwo za1)) yh 7 hm1 ((ou1 + 1)))) (m_X6_unwinds_h026 tx op1 (upd yc ((200 * tx) + ou1) (m_X6_next_h022 td ftp fwo za1)) yh 7 hm1 ((ou1 + 1))) (nI (m_X6_unwinds_h027 tx op1 (upd yc ((200 * tx) + ou1) (m_X6_next_h022 td ftp fwo za1)) yh 7 hm1 ((ou1 + 1)))) sk na kp s31 s32 s33 s34 gb go fa ga s39 s40 vo, zi G cd 1200 (m_X6_unwinds_cd tx op1 (upd yc ((200 * tx) + ou1) (m_X6_next_h022 td ftp fwo za1)) yh 7 hm1 ((ou1 + 1))), zi G he 200 yh, zi G tp 160 ftp, zi G wo 96 fwo] H := zFill hP hD [0, 1, 2] [1, 2, 3] hAq hk1 hFq ht hP1 hD1 rfl (by decide +kernel)
            have hP := hz9.1
            have hD := hz9.2
            have huw := w_54
            refine lv_iconst (v := 0) hx hb dX6_eRead_70 (by decide +kernel) ?_
            refine lv_istore_n (lv' := [zI 1 0, zR 0 h0, zI 2 mn]) hx hb dX6_eRead_71 rfl hl (by decide +kernel) rfl (fun ls hl => ?_)
            refine lv_goto (tgt := 14) hx hb dX6_eRead_72 (by decide +kernel) ?_
            have hgt := hn3 (fun z9 => absurd (c_28.symm.trans z9) (by decide +kernel))
            have hU := uw_use (s26 := op1) (by decide : (1 : Int32) ≤ 7) (eI_put hI1 (Or.inr (hn4 c_28)) (by omega))
            exact ih9 (m_X6_next_h019 td ftp za1) (m_X6_unwinds_h025 tx op1 (upd yc ((200 * tx) + ou1) (m_X6_next_h022 td ftp fwo za1)) yh 7 hm1 ((ou1 + 1))) (m_X6_unwinds_h027 tx op1 (upd yc ((200 * tx) + ou1) (m_X6_next_h022 td ftp fwo za1)) yh 7 hm1 ((ou1 + 1))) (m_X6_unwinds_h026 tx op1 (upd yc ((200 * tx) + ou1) (m_X6_next_h022 td ftp fwo za1)) yh 7 hm1 ((ou1 + 1))) (m_X6_next_h020 td ftp za1) (m_X6_next_h021 td ftp fwo za1) (m_X6_next_h022 td ftp fwo za1) (m_X6_unwinds_cd tx op1 (upd yc ((200 * tx) + ou1) (m_X6_next_h022 td ftp fwo za1)) yh 7 hm1 ((ou1 + 1))) yh 0 mn (j9 + 1) (⟨hn2, by omega⟩) (by omega) (Or.inr ⟨rfl, hU.1⟩) (fun i hi => by rw [hU.2 i (by omega) (by omega), upd_n9 (by omega)]; exact hu i hi) (fun q => by rw [show q + (j9 + 1) = (q + 1) + j9 by omega, hF (q + 1), eRun]; rw [if_neg c_3, if_neg c_22, if_pos c_28]) (by omega) _ _ hP hD hS ls (lv_sub hl [1, 0, 2] rfl)
  exact loop_14 (td - za + 1) za 0 ou 0 s20 s21 s22 fcd fhe 1 1 0 (⟨hza.1, by omega⟩) (Nat.le_refl _) (Or.inl ⟨rfl, eI_start⟩) (fun i _ => rfl) (fun q => rfl) (by omega) _ _ hP hD hS ls (lv_sub hl [2, 1, 0] rfl)
/-! a text that was read stands well -/
theorem mWf_of {cd1 cd2 cd3 : Nat → Int32} {fsr : Nat → Nat} {tx o1 o2 o3 : Nat} (h1 : dp (eF cd1 tx) 0 (o1 - 0) = some 1) (h2 : dp (eF cd2 tx) o1 (o2 - o1) = some 1) (h3 : dp (eF cd3 tx) o2 (o3 - o2) = some 1) (l2 : o1 ≤ o2) (l3 : o2 ≤ o3) (l4 : o3 ≤ 200)
    (u2 : ∀ i, (i < 200 * tx + o1 ∨ 200 * tx + 200 ≤ i) → cd2 i = cd1 i) (u3 : ∀ i, (i < 200 * tx + o2 ∨ 200 * tx + 200 ≤ i) → cd3 i = cd2 i)
    (s0 : fsr (4 * tx) = 0) (s1 : fsr (4 * tx + 1) = o1) (s2 : fsr (4 * tx + 2) = o2) (s3 : fsr (4 * tx + 3) = o3) : mWf cd3 fsr tx := by
  have fin : ∀ {f : Nat → Int32} {sp q : Nat}, dp f sp q = some 1 → vOK 200 f q sp 0 := fun h => dp_ok (rest := 0) h rfl
  have e1 : dp (eF cd3 tx) 0 (o1 - 0) = some 1 := by
    rw [← h1]
    refine dp_eq (fun i hi => ?_)
    show cd3 (200 * tx + (0 + i)) = cd1 (200 * tx + (0 + i))
    rw [u3 _ (by omega), u2 _ (by omega)]
  have e2 : dp (eF cd3 tx) o1 (o2 - o1) = some 1 := by
    rw [← h2]
    refine dp_eq (fun i hi => ?_)
    show cd3 (200 * tx + (o1 + i)) = cd2 (200 * tx + (o1 + i))
    rw [u3 _ (by omega)]
  intro pt hp
  have c : pt = 0 ∨ pt = 1 ∨ pt = 2 := by omega
  rcases c with e | e | e
  · subst e
    rw [show 4 * tx + 0 + 1 = 4 * tx + 1 by omega, show 4 * tx + 0 = 4 * tx by omega, s0, s1]
    exact ⟨by omega, by omega, fin e1⟩
  · subst e
    rw [show 4 * tx + 1 + 1 = 4 * tx + 2 by omega, s1, s2]
    exact ⟨l2, by omega, fin e2⟩
  · subst e
    rw [show 4 * tx + 2 + 1 = 4 * tx + 3 by omega, s2, s3]
    exact ⟨l3, l4, fin h3⟩
/-- a text that stands isn't touched by the next one -/
theorem mWf_keep {cd cd' : Nat → Int32} {fsr fsr' : Nat → Nat} {t tx : Nat} (h : mWf cd fsr t) (ht : t < tx) (hu : ∀ i, i < 200 * tx → cd' i = cd i) (hs : ∀ i, i < 4 * tx → fsr' i = fsr i) : mWf cd' fsr' t := by
  intro pt hp
  obtain ⟨h1, h2, h3⟩ := h pt hp
  rw [hs _ (by omega), hs _ (by omega)]
  refine ⟨h1, h2, ?_⟩
  have key : ∀ (q k n : Nat), k + q ≤ 200 → vOK 200 (fun i => cd (200 * t + i)) q k n → vOK 200 (fun i => cd' (200 * t + i)) q k n := by
    intro q
    induction q with
    | zero => intro k n _ z; exact z
    | succ q ih =>
      intro k n hk z
      have e : cd' (200 * t + k) = cd (200 * t + k) := hu _ (by omega)
      rw [vOK] at z ⊢
      simp only [e]
      by_cases c1 : 100000 ≤ cd (200 * t + k) ∨ cd (200 * t + k) < 11
      · simp only [if_pos c1] at z ⊢
        exact ⟨z.1, ih _ _ (by omega) z.2⟩
      · simp only [if_neg c1] at z ⊢
        by_cases c2 : cd (200 * t + k) = 13 ∨ cd (200 * t + k) = 19
        · simp only [if_pos c2] at z ⊢
          exact ⟨z.1, ih _ _ (by omega) z.2⟩
        · simp only [if_neg c2] at z ⊢
          exact ⟨z.1, ih _ _ (by omega) z.2⟩
  exact key _ _ _ (by omega) h3
