/-! the reference's evaluation of a text: the stack as a list -/
noncomputable def sAg (y : Nat → Int32) : List Int32 → Prop
  | [] => True
  | a :: L => y L.length = a ∧ sAg y L
theorem sAg_upd {y : Nat → Int32} {k : Nat} {x : Int32} : ∀ {L : List Int32}, L.length ≤ k → sAg y L → sAg (upd y k x) L
  | [], _, _ => trivial
  | a :: L, hk, h => by
    have hk' : L.length + 1 ≤ k := hk
    exact ⟨(upd_n9 (by omega)).trans h.1, sAg_upd (by omega) h.2⟩
theorem sL1 {L : List Int32} (h : 1 ≤ L.length) : ∃ a L0, L = a :: L0 := by
  cases L with
  | nil => exact absurd h (by decide +kernel)
  | cons a L0 => exact ⟨a, L0, rfl⟩
theorem sL2 {L : List Int32} (h : 2 ≤ L.length) : ∃ b a L0, L = b :: a :: L0 := by
  cases L with
  | nil => exact absurd h (by decide +kernel)
  | cons b L1 =>
    cases L1 with
    | nil => exact absurd h (by show ¬ 2 ≤ 0 + 1; omega)
    | cons a L0 => exact ⟨b, a, L0, rfl⟩
theorem s11 {c : Int32} (h : 100000 ≤ c) : 11 ≤ c := by
  have a : (100000 : Int) ≤ c.toInt := Int32.le_iff_toInt_le.mp h
  exact Int32.le_iff_toInt_le.mpr (by show (11 : Int) ≤ c.toInt; omega)
theorem sIx {c : Int32} (h : 0 ≤ c ∧ c < 6) : vp_in c 6 := by
  have e := nC_eq h.1
  have a := h.2
  rw [e] at a ⊢
  exact vp_in_nI (nI_lt1 (a := nC c) (b := 6) (nC_31 c) (by omega) a) (by omega)
noncomputable def vStep (na : Nat → Int32) (c : Int32) (L : List Int32) : List Int32 :=
  if 100000 ≤ c ∨ c < 11 then (if c < 11 then na (nC c) else c - 100000) :: L
  else if c = 13 then (match L with | a :: L0 => (if a = 0 then 1 else 0) :: L0 | [] => [])
  else if c = 19 then (match L with | a :: L0 => (-a) :: L0 | [] => [])
  else (match L with | b :: a :: L0 => m_X6_two c a b :: L0 | _ => [])
noncomputable def vRun (f : Nat → Int32) (na : Nat → Int32) : Nat → Nat → List Int32 → List Int32
  | 0, _, L => L
  | q + 1, k, L => vRun f na q (k + 1) (vStep na (f k) L)
/-- so many codes from a place on find so many numbers on the stack and leave one -/
noncomputable def vOK (m : Nat) (f : Nat → Int32) : Nat → Nat → Nat → Prop
  | 0, _, n => n = 1
  | q + 1, k, n => if 100000 ≤ f k ∨ f k < 11 then ((f k < 11 → 0 ≤ f k ∧ f k < 6) ∧ n < m) ∧ vOK m f q (k + 1) (n + 1)
    else if f k = 13 ∨ f k = 19 then 1 ≤ n ∧ vOK m f q (k + 1) n else 2 ≤ n ∧ vOK m f q (k + 1) (n - 1)
section VOK
variable {m : Nat} {f na nb : Nat → Int32} {q k n : Nat} {c : Int32} {L : List Int32} {a b : Int32}
theorem vOK_push (h : vOK m f (q + 1) k n) (hc : 100000 ≤ f k ∨ f k < 11) : (n < m) ∧ vOK m f q (k + 1) (n + 1) := by
  rw [vOK, if_pos hc] at h
  exact ⟨h.1.2, h.2⟩
theorem vOK_nm (h : vOK m f (q + 1) k n) (hc : f k < 11) : 0 ≤ f k ∧ f k < 6 := by
  rw [vOK, if_pos (Or.inr hc)] at h
  exact h.1.1 hc
theorem vOK_q {x : Int32} (h : x = 13 ∨ x = 19) : ¬ (100000 ≤ x ∨ x < 11) := by rcases h with e | e <;> rw [e] <;> decide
theorem vOK_one' (h : vOK m f (q + 1) k n) (hc : f k = 13 ∨ f k = 19) : 1 ≤ n ∧ vOK m f q (k + 1) n := by
  rw [vOK, if_neg (vOK_q hc), if_pos hc] at h
  exact h
theorem vOK_one1 (h : vOK m f (q + 1) k n) (hc : f k = 13 ∨ f k = 19) : 1 ≤ n := (vOK_one' h hc).1
theorem vOK_one (h : vOK m f (q + 1) k n) (hc : f k = 13 ∨ f k = 19) : vOK m f q (k + 1) n := (vOK_one' h hc).2
theorem vOK_two' (h : vOK m f (q + 1) k n) (h4 : ¬ 100000 ≤ f k) (h3 : 11 ≤ f k) (h1 : ¬ f k = 13) (h2 : ¬ f k = 19) : 2 ≤ n ∧ vOK m f q (k + 1) (n - 1) := by
  rw [vOK, if_neg (fun z => z.elim h4 (Int32.not_lt.mpr h3)), if_neg (fun z => z.elim h1 h2)] at h
  exact h
theorem vOK_two2 (h : vOK m f (q + 1) k n) (h4 : ¬ 100000 ≤ f k) (h3 : 11 ≤ f k) (h1 : ¬ f k = 13) (h2 : ¬ f k = 19) : 2 ≤ n := (vOK_two' h h4 h3 h1 h2).1
theorem vOK_two (h : vOK m f (q + 1) k n) (h4 : ¬ 100000 ≤ f k) (h3 : 11 ≤ f k) (h1 : ¬ f k = 13) (h2 : ¬ f k = 19) : vOK m f q (k + 1) (n - 1) := (vOK_two' h h4 h3 h1 h2).2
theorem vStep_n (h : c < 11) : vStep na c L = na (nC c) :: L := by unfold vStep; rw [if_pos (Or.inr h), if_pos h]
theorem vStep_c (h : 100000 ≤ c) : vStep na c L = (c - 100000) :: L := by unfold vStep; rw [if_pos (Or.inl h), if_neg (Int32.not_lt.mpr (s11 h))]
theorem vStep_z (h : c = 13) : vStep na c (a :: L) = (if a = 0 then 1 else 0) :: L := by rw [vStep, if_neg (vOK_q (Or.inl h)), if_pos h]
theorem vStep_m (h : c = 19) : vStep na c (a :: L) = (-a) :: L := by rw [vStep, if_neg (vOK_q (Or.inr h)), if_neg (by rw [h]; decide), if_pos h]
theorem vStep_b (h4 : ¬ 100000 ≤ c) (h3 : 11 ≤ c) (h1 : ¬ c = 13) (h2 : ¬ c = 19) : vStep na c (b :: a :: L) = m_X6_two c a b :: L := by
  rw [vStep, if_neg (fun z => z.elim h4 (Int32.not_lt.mpr h3)), if_neg h1, if_neg h2]
theorem sAg_last {y : Nat → Int32} (h : vOK m f 0 k L.length) (hY : sAg y L) : y 0 = L.headD 0 := by
  have h1 : L.length = 1 := h
  obtain ⟨x, L0, rfl⟩ := sL1 (by omega : 1 ≤ L.length)
  have h2 : L0.length = 0 := by have : L0.length + 1 = 1 := h1; omega
  have h3 := hY.1
  rw [h2] at h3
  exact h3
end VOK
theorem vStep_eq {na nb : Nat → Int32} {c : Int32} {L : List Int32} (hab : ∀ i, i < 6 → na i = nb i) (h : c < 11 → 0 ≤ c ∧ c < 6) : vStep na c L = vStep nb c L := by
  by_cases h1 : c < 11
  · rw [vStep_n h1, vStep_n h1]
    obtain ⟨h2, h3⟩ := h h1
    rw [nC_eq h2] at h3
    rw [hab (nC c) (nI_lt1 (a := nC c) (b := 6) (nC_31 c) (by omega) h3)]
  · unfold vStep
    rw [if_neg h1, if_neg h1]
theorem vRun_eq {m : Nat} {f na nb : Nat → Int32} (hab : ∀ i, i < 6 → na i = nb i) : ∀ (q k n : Nat) (L : List Int32), vOK m f q k n → vRun f na q k L = vRun f nb q k L
  | 0, _, _, _, _ => rfl
  | q + 1, k, n, L, h => by
    rw [vRun, vRun]
    by_cases h1 : f k < 11
    · rw [vStep_eq hab (fun z => vOK_nm h z)]
      exact vRun_eq hab q (k + 1) (n + 1) _ (vOK_push h (Or.inr h1)).2
    · rw [vStep_eq hab (fun z => absurd z h1)]
      rw [vOK] at h
      by_cases h2 : 100000 ≤ f k ∨ f k < 11
      · rw [if_pos h2] at h; exact vRun_eq hab q (k + 1) _ _ h.2
      · rw [if_neg h2] at h
        by_cases h3 : f k = 13 ∨ f k = 19
        · rw [if_pos h3] at h; exact vRun_eq hab q (k + 1) _ _ h.2
        · rw [if_neg h3] at h; exact vRun_eq hab q (k + 1) _ _ h.2
/-- the three parts of a text are laid well -/
def mWf (fcd : Nat → Int32) (fsr : Nat → Nat) (ru : Nat) : Prop := ∀ pt, pt < 3 → fsr (4 * ru + pt) ≤ fsr (4 * ru + pt + 1) ∧ fsr (4 * ru + pt + 1) ≤ 200 ∧ vOK 200 (fun i => fcd (200 * ru + i)) (fsr (4 * ru + pt + 1) - fsr (4 * ru + pt)) (fsr (4 * ru + pt)) 0
noncomputable def mSays (fcd : Nat → Int32) (fsr : Nat → Nat) (ru pt : Nat) (na : Nat → Int32) : Int32 := (vRun (fun i => fcd (200 * ru + i)) na (fsr (4 * ru + pt + 1) - fsr (4 * ru + pt)) (fsr (4 * ru + pt)) []).headD 0
theorem mSays_nm {fcd : Nat → Int32} {fsr : Nat → Nat} {ru pt : Nat} {na nb : Nat → Int32} (hw : mWf fcd fsr ru) (hp : pt < 3) (hab : ∀ i, i < 6 → na i = nb i) : mSays fcd fsr ru pt na = mSays fcd fsr ru pt nb := by
  unfold mSays
  rw [vRun_eq hab _ _ _ _ (hw pt hp).2.2]
noncomputable def mNm (a b c d e f : Int32) : Nat → Int32 := fun i => if i = 0 then a else if i = 1 then b else if i = 2 then c else if i = 3 then d else if i = 4 then e else f
theorem mNm_of {g : Nat → Int32} {a b c d e f : Int32} : ∀ {i : Nat}, i < 6 → (upd (upd (upd (upd (upd (upd g 0 a) 1 b) 2 c) 3 d) 4 e) 5 f) i = mNm a b c d e f i
  | 0, _ => rfl
  | 1, _ => rfl
  | 2, _ => rfl
  | 3, _ => rfl
  | 4, _ => rfl
  | 5, _ => rfl
  | i + 6, h => by omega
abbrev q_X6_says (G : gG) (h0 kd mo st ro tp cd sr ir ih ss sq ce lw wo he sk na kp gb go fa ga vo : Nat) (pb : Nat) (jg : Nat) (td : Nat) (tx : Nat) (ru : Nat) (him : Int32) (s19 : Int32) (s20 : Int32) (s21 : Int32) (s22 : Int32) (s25 : Int32) (s26 : Int32) (s27 : Int32) (s31 : Int32) (s32 : Int32) (s33 : Int32) (s34 : Int32) (s39 : Int32) (s40 : Int32) (fcd : Nat → Int32) (fsr : Nat → Nat) (fsk : Nat → Int32) (fna : Nat → Int32) (pt : Nat) (A : Nat → Prop) : Array Value → State → Outcome → State → Prop := va_Qi (fun (r : Int32) (u : (Nat → Int32)) => match u with | ysk => r = mSays fcd fsr ru pt fna) (fun (u : (Nat → Int32)) t => match u with | ysk => va_P G.1 vwCl [zo6 h0 (nI pb) kd mo st (nI jg) ro tp (nI td) cd sr (nI tx) (nI ru) him ir ih ss sq ce lw s19 s20 s21 s22 wo he s25 s26 s27 sk na kp s31 s32 s33 s34 gb go fa ga s39 s40 vo, zi G cd 1200 fcd, zi G sr 24 (nF fsr), zi G sk 200 ysk, zi G na 6 fna] t.heap ∧ gK G t ∧ va_D A [zo6 h0 (nI pb) kd mo st (nI jg) ro tp (nI td) cd sr (nI tx) (nI ru) him ir ih ss sq ce lw s19 s20 s21 s22 wo he s25 s26 s27 sk na kp s31 s32 s33 s34 gb go fa ga s39 s40 vo, zi G cd 1200 fcd, zi G sr 24 (nF fsr), zi G sk 200 ysk, zi G na 6 fna]) A
set_option maxHeartbeats 4000000 in
set_option maxRecDepth 100000 in
theorem c_X6_says (l : Launch) (G : gG) (h0 kd mo st ro tp cd sr ir ih ss sq ce lw wo he sk na kp gb go fa ga vo : Nat) (pb : Nat) (jg : Nat) (td : Nat) (tx : Nat) (ru : Nat) (him : Int32) (s19 : Int32) (s20 : Int32) (s21 : Int32) (s22 : Int32) (s25 : Int32) (s26 : Int32) (s27 : Int32) (s31 : Int32) (s32 : Int32) (s33 : Int32) (s34 : Int32) (s39 : Int32) (s40 : Int32) (fcd : Nat → Int32) (fsr : Nat → Nat) (fsk : Nat → Int32) (fna : Nat → Int32) (pt : Nat) (sz : Nat) (hpt : pt < 3) (hwf : mWf fcd fsr ru) (hpb : pb ≤ 6) (hjg : jg ≤ 4) (htx : tx ≤ 6) (hru : ru < tx) : Met l yX6_says wsX6_says ({ frames := 1, cells := 0, slots := 0, locals := 22 }) (gPre G [.ref h0, .int (nI pt)] [zo6 h0 (nI pb) kd mo st (nI jg) ro tp (nI td) cd sr (nI tx) (nI ru) him ir ih ss sq ce lw s19 s20 s21 s22 wo he s25 s26 s27 sk na kp s31 s32 s33 s34 gb go fa ga s39 s40 vo, zi G cd 1200 fcd, zi G sr 24 (nF fsr), zi G sk 200 fsk, zi G na 6 fna] sz) (q_X6_says G h0 kd mo st ro tp cd sr ir ih ss sq ce lw wo he sk na kp gb go fa ga vo pb jg td tx ru him s19 s20 s21 s22 s25 s26 s27 s31 s32 s33 s34 s39 s40 fcd fsr fsk fna pt (va_A [zo6 h0 (nI pb) kd mo st (nI jg) ro tp (nI td) cd sr (nI tx) (nI ru) him ir ih ss sq ce lw s19 s20 s21 s22 wo he s25 s26 s27 sk na kp s31 s32 s33 s34 gb go fa ga s39 s40 vo, zi G cd 1200 fcd, zi G sr 24 (nF fsr), zi G sk 200 fsk, zi G na 6 fna] sz)) 0 0 (va_A [zo6 h0 (nI pb) kd mo st (nI jg) ro tp (nI td) cd sr (nI tx) (nI ru) him ir ih ss sq ce lw s19 s20 s21 s22 wo he s25 s26 s27 sk na kp s31 s32 s33 s34 gb go fa ga s39 s40 vo, zi G cd 1200 fcd, zi G sr 24 (nF fsr), zi G sk 200 fsk, zi G na 6 fna] sz) := by
  refine Met.ofW (cc := cX6_says) (maxL := 5) (ret := (some .int)) (by decide +kernel) rfl ?_
  intro p e s m args below meth c s₁ B hml hv
  obtain ⟨rfl, hsz, hP, hK, hD0⟩ := hv
  have hx := B.exec
  have hb := B.bytes
  have hr := B.returns
  have hts := atoms_spec (ws := wsX6_says) B.pre
  have hown : s.vm.findClass RX6 = some m.cls := findClass_of_methodNamed B.named
  have hlocks := B.notSynchronized
  subst hsz
  have hD := hD0.self (sz := s.heap.size)
  generalize hAe : va_A [zo6 h0 (nI pb) kd mo st (nI jg) ro tp (nI td) cd sr (nI tx) (nI ru) him ir ih ss sq ce lw s19 s20 s21 s22 wo he s25 s26 s27 sk na kp s31 s32 s33 s34 gb go fa ga s39 s40 vo, zi G cd 1200 fcd, zi G sr 24 (nF fsr), zi G sk 200 fsk, zi G na 6 fna] s.heap.size = A at hD ⊢
  have hA : ∀ q : Nat, s.heap.size ≤ q → A q := fun q h => by rw [← hAe]; exact Or.inr h
  have hS : va_S A s.heap s.heap [] := va_S.rf
  have hz9 : gPD G A [zo6 h0 (nI pb) kd mo st (nI jg) ro tp (nI td) cd sr (nI tx) (nI ru) him ir ih ss sq ce lw s19 s20 s21 s22 wo he s25 s26 s27 sk na kp s31 s32 s33 s34 gb go fa ga s39 s40 vo, zi G cd 1200 fcd, zi G sr 24 (nF fsr), zi G sk 200 fsk, zi G na 6 fna] s.heap := ⟨hP, hD⟩
  have hP := hz9.1
  have hD := hz9.2
  have hl := lv_entry ([.ref h0, .int (nI pt)]) (n := 5) (Nat.le_of_ble_eq_true rfl)
  rw [lg_entry_eq]
  generalize (lg_sl ([.ref h0, .int (nI pt)]) ++ List.replicate (5 - (lg_sl ([.ref h0, .int (nI pt)])).length) Slot.unset).toArray = ls at hl ⊢
  have hl : lv_has ls 5 [zR 0 h0, zI 1 (nI pt)] := hl
  have kf28 := hts (.fieldLink RX6 28 "PebbleInShoeModel" "starts" "[I") (by decide +kernel)
  have hiX6 := (by decide +kernel : ∀ w ∈ wsX60, w ∈ wsX6_says)
  have kf101 := hts (.fieldLink RX6 101 "PebbleInShoeModel" "rule" "I") (by decide +kernel)
  have kf55 := hts (.fieldLink RX6 55 "PebbleInShoeModel" "stack" "[I") (by decide +kernel)
  have kf25 := hts (.fieldLink RX6 25 "PebbleInShoeModel" "codes" "[I") (by decide +kernel)
  have kf58 := hts (.fieldLink RX6 58 "PebbleInShoeModel" "named" "[I") (by decide +kernel)
  obtain ⟨wa, wb, wc⟩ := hwf pt hpt
  refine lv_iconst (v := 0) hx hb dX6_says_0 (by decide +kernel) ?_
  refine lv_istore_n (lv' := [zI 2 0, zR 0 h0, zI 1 (nI pt)]) hx hb dX6_says_1 rfl hl (by decide +kernel) rfl (fun ls hl => ?_)
  refine g_aget (D := G.1) (ci := 6) (v := .ref sr) (C := RX6) (T := TX6) (N := 42) hx hb dX6_says_2 rfl (lv_at hl 1 rfl) hts hiX6 hown hK hP 0 rfl rfl 9 (by decide +kernel) kf28 (fun _ h9 => h9) rfl dX6_says_3 ?_
  refine lv_iconst (v := 4) hx hb dX6_says_6 (by decide +kernel) ?_
  refine g_aget (D := G.1) (ci := 6) (v := .int (nI ru)) (C := RX6) (T := TX6) (N := 42) hx hb dX6_says_7 rfl (lv_at hl 1 rfl) hts hiX6 hown hK hP 0 rfl rfl 11 (by decide +kernel) kf101 (fun _ h9 => h9) rfl dX6_says_8 ?_
  refine lv_imul hx hb dX6_says_11 ?_
  refine g_topi (y := nI (4 * ru)) (pk_mul 4 ru) ?_
  refine lv_iload_n hx hb dX6_says_12 rfl (lv_at hl 2 rfl) ?_
  refine lv_iadd hx hb dX6_says_13 ?_
  refine g_topi (y := nI ((4 * ru) + pt)) (nI_add (4 * ru) pt) ?_
  refine va_iald (D := G.1) hx hb hK hP 2 0 rfl rfl (i := (nI ((4 * ru) + pt))) (vpn (by omega) rfl) dX6_says_14 ?_
  refine g_topi (y := nI (fsr ((4 * ru) + pt))) (nF_at (by omega)) ?_
  refine lv_istore_n (lv' := [zI 3 (nI (fsr ((4 * ru) + pt))), zI 2 0, zR 0 h0, zI 1 (nI pt)]) hx hb dX6_says_15 rfl hl (by decide +kernel) rfl (fun ls hl => ?_)
  have loop_16 : ∀ (n9 : Nat) (k : Nat) (L : List Int32) (y : Nat → Int32), (fsr (4 * ru + pt) ≤ k ∧ k ≤ fsr (4 * ru + pt + 1)) → (L.length ≤ 200) → (vOK 200 (fun i => fcd (200 * ru + i)) (fsr (4 * ru + pt + 1) - k) k L.length) → (sAg y L) → (vRun (fun i => fcd (200 * ru + i)) fna (fsr (4 * ru + pt + 1) - k) k L = vRun (fun i => fcd (200 * ru + i)) fna (fsr (4 * ru + pt + 1) - fsr (4 * ru + pt)) (fsr (4 * ru + pt)) []) → (fsr (4 * ru + pt + 1) - k) < n9 → ∀ (H : Heap) (locs : List Loc), va_P G.1 vwCl [zo6 h0 (nI pb) kd mo st (nI jg) ro tp (nI td) cd sr (nI tx) (nI ru) him ir ih ss sq ce lw s19 s20 s21 s22 wo he s25 s26 s27 sk na kp s31 s32 s33 s34 gb go fa ga s39 s40 vo, zi G cd 1200 fcd, zi G sr 24 (nF fsr), zi G sk 200 y, zi G na 6 fna] H → va_D A [zo6 h0 (nI pb) kd mo st (nI jg) ro tp (nI td) cd sr (nI tx) (nI ru) him ir ih ss sq ce lw s19 s20 s21 s22 wo he s25 s26 s27 sk na kp s31 s32 s33 s34 gb go fa ga s39 s40 vo, zi G cd 1200 fcd, zi G sr 24 (nF fsr), zi G sk 200 y, zi G na 6 fna] → va_S A s.heap H locs → ∀ ls : Array Slot, lv_has ls 5 [zI 3 (nI k), zI 2 (nI L.length), zI 1 (nI pt), zR 0 h0] → W p l e (headSpec wsX6_says ({ frames := 1, cells := 0, slots := 0, locals := 22 })).room s m ([.ref h0, .int (nI pt)] : List Value).toArray below meth c H locs 0 0 (MQ below (q_X6_says G h0 kd mo st ro tp cd sr ir ih ss sq ce lw wo he sk na kp gb go fa ga vo pb jg td tx ru him s19 s20 s21 s22 s25 s26 s27 s31 s32 s33 s34 s39 s40 fcd fsr fsk fna pt A) ([.ref h0, .int (nI pt)] : List Value).toArray s 0 0 A) (F0 m 16 ls []) := by
    intro n9
    induction n9 with
    | zero => intro k L y hk hLn hO hY hR hm9; exact absurd hm9 (Nat.not_lt_zero _)
    | succ n9 ih9 =>
      intro k L y hk hLn hO hY hR hm9 H locs hP hD hS ls hl
      refine lv_iload_n hx hb dX6_says_16 rfl (lv_at hl 0 rfl) ?_
      refine g_aget (D := G.1) (ci := 6) (v := .ref sr) (C := RX6) (T := TX6) (N := 42) hx hb dX6_says_17 rfl (lv_at hl 3 rfl) hts hiX6 hown hK hP 0 rfl rfl 9 (by decide +kernel) kf28 (fun _ h9 => h9) rfl dX6_says_18 ?_
      refine lv_iconst (v := 4) hx hb dX6_says_21 (by decide +kernel) ?_
      refine g_aget (D := G.1) (ci := 6) (v := .int (nI ru)) (C := RX6) (T := TX6) (N := 42) hx hb dX6_says_22 rfl (lv_at hl 3 rfl) hts hiX6 hown hK hP 0 rfl rfl 11 (by decide +kernel) kf101 (fun _ h9 => h9) rfl dX6_says_23 ?_
      refine lv_imul hx hb dX6_says_26 ?_
      refine g_topi (y := nI (4 * ru)) (pk_mul 4 ru) ?_
      refine lv_iload_n hx hb dX6_says_27 rfl (lv_at hl 2 rfl) ?_
      refine lv_iadd hx hb dX6_says_28 ?_
      refine g_topi (y := nI ((4 * ru) + pt)) (nI_add (4 * ru) pt) ?_
      refine lv_iconst (v := 1) hx hb dX6_says_29 (by decide +kernel) ?_
      refine lv_iadd hx hb dX6_says_30 ?_
      refine g_topi (y := nI (((4 * ru) + pt) + 1)) (nI_add ((4 * ru) + pt) 1) ?_
      refine va_iald (D := G.1) hx hb hK hP 2 0 rfl rfl (i := (nI (((4 * ru) + pt) + 1))) (vpn (by omega) rfl) dX6_says_31 ?_
      refine g_topi (y := nI (fsr (((4 * ru) + pt) + 1))) (nF_at (by omega)) ?_
      refine lv_icmp_ge (tgt := 197) hx hb dX6_says_32 (by decide +kernel) (fun c_8 => ?_) (fun c_8 => ?_)
      · skip
        have c_8N : (fsr (((4 * ru) + pt) + 1)) ≤ k := nI_le1 (a := (fsr (((4 * ru) + pt) + 1))) (b := k) (by omega) (by omega) c_8
        refine g_aget (D := G.1) (ci := 6) (v := .ref sk) (C := RX6) (T := TX6) (N := 42) hx hb dX6_says_197 rfl (lv_at hl 3 rfl) hts hiX6 hown hK hP 0 rfl rfl 28 (by decide +kernel) kf55 (fun _ h9 => h9) rfl dX6_says_198 ?_
        refine lv_iconst (v := 0) hx hb dX6_says_201 (by decide +kernel) ?_
        refine va_iald (D := G.1) hx hb hK hP 3 0 rfl rfl (i := 0) (gIn (by decide +kernel)) dX6_says_202 ?_
        refine lv_topi (fun v_9 ev_9 => ?_)
        have ev_9 : v_9 = y 0 := ev_9
        subst ev_9
        have hpost : (fun (r : Int32) (u : (Nat → Int32)) => match u with | ysk => r = mSays fcd fsr ru pt fna) (y 0) (y) := by
          have hz : fsr (4 * ru + pt + 1) - k = 0 := by omega
          rw [hz] at hO hR
          show y 0 = mSays fcd fsr ru pt fna
          unfold mSays
          rw [← hR]
          exact sAg_last hO hY
        exact W.iret (v := (y 0)) hx hb hr (fun t ht hW => ⟨⟨(y 0), (y), rfl, hpost, by rw [ht]; exact hP, va_K.moved hW.alike hK, hD⟩, hS.F ht⟩) hS.2.2 dX6_says_203
      · skip
        have c_8N : k < (fsr (((4 * ru) + pt) + 1)) := nI_le0 (a := (fsr (((4 * ru) + pt) + 1))) (b := k) (by omega) (by omega) c_8
        have hO1 : vOK 200 (fun i => fcd (200 * ru + i)) (fsr (4 * ru + pt + 1) - (k + 1) + 1) k L.length := by rw [show fsr (4 * ru + pt + 1) - (k + 1) + 1 = fsr (4 * ru + pt + 1) - k by omega]; exact hO
        refine g_aget (D := G.1) (ci := 6) (v := .ref cd) (C := RX6) (T := TX6) (N := 42) hx hb dX6_says_35 rfl (lv_at hl 3 rfl) hts hiX6 hown hK hP 0 rfl rfl 8 (by decide +kernel) kf25 (fun _ h9 => h9) rfl dX6_says_36 ?_
        refine lv_sipush (v := 200) hx hb dX6_says_39 (by decide +kernel) ?_
        refine g_aget (D := G.1) (ci := 6) (v := .int (nI ru)) (C := RX6) (T := TX6) (N := 42) hx hb dX6_says_42 rfl (lv_at hl 3 rfl) hts hiX6 hown hK hP 0 rfl rfl 11 (by decide +kernel) kf101 (fun _ h9 => h9) rfl dX6_says_43 ?_
        refine lv_imul hx hb dX6_says_46 ?_
        refine g_topi (y := nI (200 * ru)) (pk_mul 200 ru) ?_
        refine lv_iload_n hx hb dX6_says_47 rfl (lv_at hl 0 rfl) ?_
        refine lv_iadd hx hb dX6_says_48 ?_
        refine g_topi (y := nI ((200 * ru) + k)) (nI_add (200 * ru) k) ?_
        refine g_iald (D := G.1) hx hb hK hP 1 0 rfl rfl (k := (200 * ru) + k) (y := fcd ((200 * ru) + k)) (by omega) rfl rfl dX6_says_49 ?_
        refine lv_istore (lv' := [zI 4 (fcd ((200 * ru) + k)), zI 3 (nI k), zI 2 (nI L.length), zI 1 (nI pt), zR 0 h0]) hx hb dX6_says_50 hl (by decide +kernel) rfl (fun ls hl => ?_)
        refine lv_iload hx hb dX6_says_52 (lv_at hl 0 rfl) ?_
        refine lv_ldc hx hb hown (hts (.constant RX6 153 (100000)) (by decide +kernel)) dX6_says_54 ?_
        refine lv_icmp_ge (tgt := 66) hx hb dX6_says_56 (by decide +kernel) (fun c_13 => ?_) (fun c_13 => ?_)
        · skip
          have hq2 : L.length < 200 := (vOK_push hO1 (Or.inl c_13)).1
          refine g_aget (D := G.1) (ci := 6) (v := .ref sk) (C := RX6) (T := TX6) (N := 42) hx hb dX6_says_66 rfl (lv_at hl 4 rfl) hts hiX6 hown hK hP 0 rfl rfl 28 (by decide +kernel) kf55 (fun _ h9 => h9) rfl dX6_says_67 ?_
          refine lv_iload_n hx hb dX6_says_70 rfl (lv_at hl 2 rfl) ?_
          refine lv_iload hx hb dX6_says_71 (lv_at hl 0 rfl) ?_
          refine lv_bipush (v := 11) hx hb dX6_says_73 (by decide +kernel) ?_
          refine lv_icmp_ge (tgt := 88) hx hb dX6_says_75 (by decide +kernel) (fun c_14 => ?_) (fun c_14 => ?_)
          rotate_left
          · exact absurd (s11 c_13) c_14
          refine lv_iload hx hb dX6_says_88 (lv_at hl 0 rfl) ?_
          refine lv_ldc hx hb hown (hts (.constant RX6 153 (100000)) (by decide +kernel)) dX6_says_90 ?_
          refine lv_isub hx hb dX6_says_92 ?_
          refine g_iast (D := G.1) hx hb hK hP hD hS 3 0 rfl rfl (k := L.length) (x := ((fcd ((200 * ru) + k)) - 100000)) (by omega) rfl dX6_says_93 (fun H locs hP hD hS => ?_)
          have hz9 : gPD G A [zo6 h0 (nI pb) kd mo st (nI jg) ro tp (nI td) cd sr (nI tx) (nI ru) him ir ih ss sq ce lw s19 s20 s21 s22 wo he s25 s26 s27 sk na kp s31 s32 s33 s34 gb go fa ga s39 s40 vo, zi G cd 1200 fcd, zi G sr 24 (nF fsr), zi G sk 200 (upd y L.length ((fcd ((200 * ru) + k)) - 100000)), zi G na 6 fna] H := ⟨hP, hD⟩
          have hP := hz9.1
          have hD := hz9.2
          refine lv_iinc (v := nI (L.length + 1)) (lv' := [zI 2 (nI (L.length + 1)), zI 4 (fcd ((200 * ru) + k)), zI 3 (nI k), zI 1 (nI pt), zR 0 h0]) hx hb dX6_says_94 hl (k := 2) rfl (nI_add L.length 1) (by decide +kernel) rfl (fun ls hl => ?_)
          refine lv_goto (tgt := 191) hx hb dX6_says_97 (by decide +kernel) ?_
          refine lv_iinc (v := nI (k + 1)) (lv' := [zI 3 (nI (k + 1)), zI 2 (nI (L.length + 1)), zI 4 (fcd ((200 * ru) + k)), zI 1 (nI pt), zR 0 h0]) hx hb dX6_says_191 hl (k := 2) rfl (nI_add k 1) (by decide +kernel) rfl (fun ls hl => ?_)
          refine lv_goto (tgt := 16) hx hb dX6_says_194 (by decide +kernel) ?_
          exact ih9 (k + 1) ((fcd (200 * ru + k) - 100000) :: L) (upd y L.length ((fcd ((200 * ru) + k)) - 100000)) (⟨by omega, by omega⟩) (by have := (vOK_push hO1 (Or.inl c_13)).1; show L.length + 1 ≤ 200; omega) ((vOK_push hO1 (Or.inl c_13)).2) (⟨upd_at, sAg_upd (Nat.le_refl _) hY⟩) (by rw [← hR, show fsr (4 * ru + pt + 1) - k = fsr (4 * ru + pt + 1) - (k + 1) + 1 by omega, vRun]; rw [vStep_c c_13]) (by omega) _ _ hP hD hS ls (lv_sub hl [0, 1, 3, 4] rfl)
        · skip
          refine lv_iload hx hb dX6_says_59 (lv_at hl 0 rfl) ?_
          refine lv_bipush (v := 11) hx hb dX6_says_61 (by decide +kernel) ?_
          refine lv_icmp_ge (tgt := 100) hx hb dX6_says_63 (by decide +kernel) (fun c_15 => ?_) (fun c_15 => ?_)
          · skip
            refine lv_iload hx hb dX6_says_100 (lv_at hl 0 rfl) ?_
            refine lv_bipush (v := 13) hx hb dX6_says_102 (by decide +kernel) ?_
            refine lv_icmp_ne (tgt := 134) hx hb dX6_says_104 (by decide +kernel) (fun c_16 => ?_) (fun c_16 => ?_)
            · skip
              refine lv_iload hx hb dX6_says_134 (lv_at hl 0 rfl) ?_
              refine lv_bipush (v := 19) hx hb dX6_says_136 (by decide +kernel) ?_
              refine lv_icmp_ne (tgt := 161) hx hb dX6_says_138 (by decide +kernel) (fun c_17 => ?_) (fun c_17 => ?_)
              · skip
                obtain ⟨b0, a0, L0, rfl⟩ : ∃ b0 a0 L0, L = b0 :: a0 :: L0 := sL2 (vOK_two2 hO1 c_13 c_15 c_16 c_17)
                have hq0 : (b0 :: a0 :: L0).length = L0.length + 2 := rfl
                have hl : lv_has ls 5 [zI 4 (fcd ((200 * ru) + k)), zI 3 (nI k), zI 2 (nI (L0.length + 1 + 1)), zI 1 (nI pt), zR 0 h0] := hl
                refine lv_iinc (v := nI (L0.length + 1)) (lv' := [zI 2 (nI (L0.length + 1)), zI 4 (fcd ((200 * ru) + k)), zI 3 (nI k), zI 1 (nI pt), zR 0 h0]) hx hb dX6_says_161 hl (k := 2) rfl (pk_m1 (L0.length + 1)) (by decide +kernel) rfl (fun ls hl => ?_)
                refine g_aget (D := G.1) (ci := 6) (v := .ref sk) (C := RX6) (T := TX6) (N := 42) hx hb dX6_says_164 rfl (lv_at hl 4 rfl) hts hiX6 hown hK hP 0 rfl rfl 28 (by decide +kernel) kf55 (fun _ h9 => h9) rfl dX6_says_165 ?_
                refine lv_iload_n hx hb dX6_says_168 rfl (lv_at hl 0 rfl) ?_
                refine lv_iconst (v := 1) hx hb dX6_says_169 (by decide +kernel) ?_
                refine lv_isub hx hb dX6_says_170 ?_
                refine g_topi (y := nI L0.length) (nI_pred L0.length) ?_
                refine lv_iload hx hb dX6_says_171 (lv_at hl 1 rfl) ?_
                refine g_aget (D := G.1) (ci := 6) (v := .ref sk) (C := RX6) (T := TX6) (N := 42) hx hb dX6_says_173 rfl (lv_at hl 4 rfl) hts hiX6 hown hK hP 0 rfl rfl 28 (by decide +kernel) kf55 (fun _ h9 => h9) rfl dX6_says_174 ?_
                refine lv_iload_n hx hb dX6_says_177 rfl (lv_at hl 0 rfl) ?_
                refine lv_iconst (v := 1) hx hb dX6_says_178 (by decide +kernel) ?_
                refine lv_isub hx hb dX6_says_179 ?_
                refine g_topi (y := nI L0.length) (nI_pred L0.length) ?_
                refine va_iald (D := G.1) hx hb hK hP 3 0 rfl rfl (i := (nI L0.length)) (vpn (by omega) rfl) dX6_says_180 ?_
                refine lv_topi (fun v_20 ev_20 => ?_)
                have ev_20 : v_20 = a0 := ev_20.trans (by rw [nI_clamp (by omega)]; exact hY.2.1)
                replace ev_20 := ev_20.symm; subst ev_20
                refine g_aget (D := G.1) (ci := 6) (v := .ref sk) (C := RX6) (T := TX6) (N := 42) hx hb dX6_says_181 rfl (lv_at hl 4 rfl) hts hiX6 hown hK hP 0 rfl rfl 28 (by decide +kernel) kf55 (fun _ h9 => h9) rfl dX6_says_182 ?_
                refine lv_iload_n hx hb dX6_says_185 rfl (lv_at hl 0 rfl) ?_
                refine va_iald (D := G.1) hx hb hK hP 3 0 rfl rfl (i := (nI (L0.length + 1))) (vpn (by omega) rfl) dX6_says_186 ?_
                refine lv_topi (fun v_21 ev_21 => ?_)
                have ev_21 : v_21 = b0 := ev_21.trans (by rw [nI_clamp (by omega)]; exact hY.1)
                replace ev_21 := ev_21.symm; subst ev_21
                refine z_calli [] (v := m_X6_two (fcd ((200 * ru) + k)) a0 b0) (fun _ _ h => h) (va_runS (As := [.int (fcd ((200 * ru) + k)), .int a0, .int b0]) (rest := [.int (nI L0.length), .ref sk]) ⟨hx, hb, hml, hown, hts⟩ (c_X6_two l G (fcd ((200 * ru) + k)) a0 b0 H.size) (va_cwS 3 hts gX6_says_X6_two rfl rfl rfl (by decide +kernel) ⟨Nat.le_of_ble_eq_true rfl, Nat.le_of_ble_eq_true rfl⟩) ⟨gPre_blind, fun U hU hW => gPre_ofF [] hU hW hK hP hD (by decide +kernel) rfl⟩ rfl rfl hl.1 rfl (lv_room (Nat.le_of_ble_eq_true rfl)) dX6_says_187 ⟨Nat.le_of_ble_eq_true rfl, Nat.le_of_ble_eq_true rfl⟩) hS hD hA rfl (fun u t H locs ht hvm hB hz1 hk1 hFq hAq hS => ?_)
                obtain ⟨hP1, hK1, hD1⟩ := hB
                have hP := zKeep hP hD [] hAq hk1 ht hP1 rfl
                refine g_iast (D := G.1) hx hb hK hP hD hS 3 0 rfl rfl (k := L0.length) (x := (m_X6_two (fcd ((200 * ru) + k)) a0 b0)) (by omega) rfl dX6_says_190 (fun H locs hP hD hS => ?_)
                have hz9 : gPD G A [zo6 h0 (nI pb) kd mo st (nI jg) ro tp (nI td) cd sr (nI tx) (nI ru) him ir ih ss sq ce lw s19 s20 s21 s22 wo he s25 s26 s27 sk na kp s31 s32 s33 s34 gb go fa ga s39 s40 vo, zi G cd 1200 fcd, zi G sr 24 (nF fsr), zi G sk 200 (upd y L0.length (m_X6_two (fcd ((200 * ru) + k)) a0 b0)), zi G na 6 fna] H := ⟨hP, hD⟩
                have hP := hz9.1
                have hD := hz9.2
                refine lv_iinc (v := nI (k + 1)) (lv' := [zI 3 (nI (k + 1)), zI 2 (nI (L0.length + 1)), zI 4 (fcd ((200 * ru) + k)), zI 1 (nI pt), zR 0 h0]) hx hb dX6_says_191 hl (k := 2) rfl (nI_add k 1) (by decide +kernel) rfl (fun ls hl => ?_)
                refine lv_goto (tgt := 16) hx hb dX6_says_194 (by decide +kernel) ?_
                exact ih9 (k + 1) ((m_X6_two (fcd (200 * ru + k)) a0 b0) :: L0) (upd y L0.length (m_X6_two (fcd ((200 * ru) + k)) a0 b0)) (⟨by omega, by omega⟩) (by have := hLn; show L0.length + 1 ≤ 200; have : (b0 :: a0 :: L0).length = L0.length + 2 := rfl; omega) (vOK_two hO1 c_13 c_15 c_16 c_17) (⟨upd_at, sAg_upd (Nat.le_refl _) hY.2.2⟩) (by rw [← hR, show fsr (4 * ru + pt + 1) - k = fsr (4 * ru + pt + 1) - (k + 1) + 1 by omega, vRun]; rw [vStep_b c_13 c_15 c_16 c_17]) (by omega) _ _ hP hD hS ls (lv_sub hl [0, 1, 3, 4] rfl)
              · skip
                obtain ⟨a0, L0, rfl⟩ : ∃ a0 L0, L = a0 :: L0 := sL1 (vOK_one1 hO1 (Or.inr c_17))
                have hq0 : (a0 :: L0).length = L0.length + 1 := rfl
                have hl : lv_has ls 5 [zI 4 (fcd ((200 * ru) + k)), zI 3 (nI k), zI 2 (nI (L0.length + 1)), zI 1 (nI pt), zR 0 h0] := hl
                refine g_aget (D := G.1) (ci := 6) (v := .ref sk) (C := RX6) (T := TX6) (N := 42) hx hb dX6_says_141 rfl (lv_at hl 4 rfl) hts hiX6 hown hK hP 0 rfl rfl 28 (by decide +kernel) kf55 (fun _ h9 => h9) rfl dX6_says_142 ?_
                refine lv_iload_n hx hb dX6_says_145 rfl (lv_at hl 2 rfl) ?_
                refine lv_iconst (v := 1) hx hb dX6_says_146 (by decide +kernel) ?_
                refine lv_isub hx hb dX6_says_147 ?_
                refine g_topi (y := nI L0.length) (nI_pred L0.length) ?_
                refine g_aget (D := G.1) (ci := 6) (v := .ref sk) (C := RX6) (T := TX6) (N := 42) hx hb dX6_says_148 rfl (lv_at hl 4 rfl) hts hiX6 hown hK hP 0 rfl rfl 28 (by decide +kernel) kf55 (fun _ h9 => h9) rfl dX6_says_149 ?_
                refine lv_iload_n hx hb dX6_says_152 rfl (lv_at hl 2 rfl) ?_
                refine lv_iconst (v := 1) hx hb dX6_says_153 (by decide +kernel) ?_
                refine lv_isub hx hb dX6_says_154 ?_
                refine g_topi (y := nI L0.length) (nI_pred L0.length) ?_
                refine va_iald (D := G.1) hx hb hK hP 3 0 rfl rfl (i := (nI L0.length)) (vpn (by omega) rfl) dX6_says_155 ?_
                refine lv_topi (fun v_26 ev_26 => ?_)
                have ev_26 : v_26 = a0 := ev_26.trans (by rw [nI_clamp (by omega)]; exact hY.1)
                replace ev_26 := ev_26.symm; subst ev_26
                refine lv_ineg hx hb dX6_says_156 ?_
                refine g_iast (D := G.1) hx hb hK hP hD hS 3 0 rfl rfl (k := L0.length) (x := (-a0)) (by omega) rfl dX6_says_157 (fun H locs hP hD hS => ?_)
                have hz9 : gPD G A [zo6 h0 (nI pb) kd mo st (nI jg) ro tp (nI td) cd sr (nI tx) (nI ru) him ir ih ss sq ce lw s19 s20 s21 s22 wo he s25 s26 s27 sk na kp s31 s32 s33 s34 gb go fa ga s39 s40 vo, zi G cd 1200 fcd, zi G sr 24 (nF fsr), zi G sk 200 (upd y L0.length (-a0)), zi G na 6 fna] H := ⟨hP, hD⟩
                have hP := hz9.1
                have hD := hz9.2
                refine lv_goto (tgt := 191) hx hb dX6_says_158 (by decide +kernel) ?_
                refine lv_iinc (v := nI (k + 1)) (lv' := [zI 3 (nI (k + 1)), zI 4 (fcd ((200 * ru) + k)), zI 2 (nI (L0.length + 1)), zI 1 (nI pt), zR 0 h0]) hx hb dX6_says_191 hl (k := 1) rfl (nI_add k 1) (by decide +kernel) rfl (fun ls hl => ?_)
                refine lv_goto (tgt := 16) hx hb dX6_says_194 (by decide +kernel) ?_
                exact ih9 (k + 1) ((-a0) :: L0) (upd y L0.length (-a0)) (⟨by omega, by omega⟩) (hLn) (vOK_one hO1 (Or.inr c_17)) (⟨upd_at, sAg_upd (Nat.le_refl _) hY.2⟩) (by rw [← hR, show fsr (4 * ru + pt + 1) - k = fsr (4 * ru + pt + 1) - (k + 1) + 1 by omega, vRun]; rw [vStep_m c_17]) (by omega) _ _ hP hD hS ls (lv_sub hl [0, 2, 3, 4] rfl)
            · skip
              obtain ⟨a0, L0, rfl⟩ : ∃ a0 L0, L = a0 :: L0 := sL1 (vOK_one1 hO1 (Or.inl c_16))
              have hq0 : (a0 :: L0).length = L0.length + 1 := rfl
              have hl : lv_has ls 5 [zI 4 (fcd ((200 * ru) + k)), zI 3 (nI k), zI 2 (nI (L0.length + 1)), zI 1 (nI pt), zR 0 h0] := hl
              refine g_aget (D := G.1) (ci := 6) (v := .ref sk) (C := RX6) (T := TX6) (N := 42) hx hb dX6_says_107 rfl (lv_at hl 4 rfl) hts hiX6 hown hK hP 0 rfl rfl 28 (by decide +kernel) kf55 (fun _ h9 => h9) rfl dX6_says_108 ?_
              refine lv_iload_n hx hb dX6_says_111 rfl (lv_at hl 2 rfl) ?_
              refine lv_iconst (v := 1) hx hb dX6_says_112 (by decide +kernel) ?_
              refine lv_isub hx hb dX6_says_113 ?_
              refine g_topi (y := nI L0.length) (nI_pred L0.length) ?_
              refine g_aget (D := G.1) (ci := 6) (v := .ref sk) (C := RX6) (T := TX6) (N := 42) hx hb dX6_says_114 rfl (lv_at hl 4 rfl) hts hiX6 hown hK hP 0 rfl rfl 28 (by decide +kernel) kf55 (fun _ h9 => h9) rfl dX6_says_115 ?_
              refine lv_iload_n hx hb dX6_says_118 rfl (lv_at hl 2 rfl) ?_
              refine lv_iconst (v := 1) hx hb dX6_says_119 (by decide +kernel) ?_
              refine lv_isub hx hb dX6_says_120 ?_
              refine g_topi (y := nI L0.length) (nI_pred L0.length) ?_
              refine va_iald (D := G.1) hx hb hK hP 3 0 rfl rfl (i := (nI L0.length)) (vpn (by omega) rfl) dX6_says_121 ?_
              refine lv_topi (fun v_29 ev_29 => ?_)
              have ev_29 : v_29 = a0 := ev_29.trans (by rw [nI_clamp (by omega)]; exact hY.1)
              replace ev_29 := ev_29.symm; subst ev_29
              refine lv_if_ne (tgt := 129) hx hb dX6_says_122 (by decide +kernel) (fun c_30 => ?_) (fun c_30 => ?_)
              · skip
                refine lv_iconst (v := 0) hx hb dX6_says_129 (by decide +kernel) ?_
                refine g_iast (D := G.1) hx hb hK hP hD hS 3 0 rfl rfl (k := L0.length) (x := 0) (by omega) rfl dX6_says_130 (fun H locs hP hD hS => ?_)
                have hz9 : gPD G A [zo6 h0 (nI pb) kd mo st (nI jg) ro tp (nI td) cd sr (nI tx) (nI ru) him ir ih ss sq ce lw s19 s20 s21 s22 wo he s25 s26 s27 sk na kp s31 s32 s33 s34 gb go fa ga s39 s40 vo, zi G cd 1200 fcd, zi G sr 24 (nF fsr), zi G sk 200 (upd y L0.length 0), zi G na 6 fna] H := ⟨hP, hD⟩
                have hP := hz9.1
                have hD := hz9.2
                refine lv_goto (tgt := 191) hx hb dX6_says_131 (by decide +kernel) ?_
                refine lv_iinc (v := nI (k + 1)) (lv' := [zI 3 (nI (k + 1)), zI 4 (fcd ((200 * ru) + k)), zI 2 (nI (L0.length + 1)), zI 1 (nI pt), zR 0 h0]) hx hb dX6_says_191 hl (k := 1) rfl (nI_add k 1) (by decide +kernel) rfl (fun ls hl => ?_)
                refine lv_goto (tgt := 16) hx hb dX6_says_194 (by decide +kernel) ?_
                exact ih9 (k + 1) ((0 : Int32) :: L0) (upd y L0.length 0) (⟨by omega, by omega⟩) (hLn) (vOK_one hO1 (Or.inl c_16)) (⟨upd_at, sAg_upd (Nat.le_refl _) hY.2⟩) (by rw [← hR, show fsr (4 * ru + pt + 1) - k = fsr (4 * ru + pt + 1) - (k + 1) + 1 by omega, vRun]; rw [vStep_z c_16, if_neg c_30]) (by omega) _ _ hP hD hS ls (lv_sub hl [0, 2, 3, 4] rfl)
              · skip
                refine lv_iconst (v := 1) hx hb dX6_says_125 (by decide +kernel) ?_
                refine lv_goto (tgt := 130) hx hb dX6_says_126 (by decide +kernel) ?_
                refine g_iast (D := G.1) hx hb hK hP hD hS 3 0 rfl rfl (k := L0.length) (x := 1) (by omega) rfl dX6_says_130 (fun H locs hP hD hS => ?_)
                have hz9 : gPD G A [zo6 h0 (nI pb) kd mo st (nI jg) ro tp (nI td) cd sr (nI tx) (nI ru) him ir ih ss sq ce lw s19 s20 s21 s22 wo he s25 s26 s27 sk na kp s31 s32 s33 s34 gb go fa ga s39 s40 vo, zi G cd 1200 fcd, zi G sr 24 (nF fsr), zi G sk 200 (upd y L0.length 1), zi G na 6 fna] H := ⟨hP, hD⟩
                have hP := hz9.1
                have hD := hz9.2
                refine lv_goto (tgt := 191) hx hb dX6_says_131 (by decide +kernel) ?_
                refine lv_iinc (v := nI (k + 1)) (lv' := [zI 3 (nI (k + 1)), zI 4 (fcd ((200 * ru) + k)), zI 2 (nI (L0.length + 1)), zI 1 (nI pt), zR 0 h0]) hx hb dX6_says_191 hl (k := 1) rfl (nI_add k 1) (by decide +kernel) rfl (fun ls hl => ?_)
                refine lv_goto (tgt := 16) hx hb dX6_says_194 (by decide +kernel) ?_
                exact ih9 (k + 1) ((1 : Int32) :: L0) (upd y L0.length 1) (⟨by omega, by omega⟩) (hLn) (vOK_one hO1 (Or.inl c_16)) (⟨upd_at, sAg_upd (Nat.le_refl _) hY.2⟩) (by rw [← hR, show fsr (4 * ru + pt + 1) - k = fsr (4 * ru + pt + 1) - (k + 1) + 1 by omega, vRun]; rw [vStep_z c_16, if_pos c_30]) (by omega) _ _ hP hD hS ls (lv_sub hl [0, 2, 3, 4] rfl)
          · skip
            have hq2 : L.length < 200 := (vOK_push hO1 (Or.inr (Int32.not_le.mp c_15))).1
            refine g_aget (D := G.1) (ci := 6) (v := .ref sk) (C := RX6) (T := TX6) (N := 42) hx hb dX6_says_66 rfl (lv_at hl 4 rfl) hts hiX6 hown hK hP 0 rfl rfl 28 (by decide +kernel) kf55 (fun _ h9 => h9) rfl dX6_says_67 ?_
            refine lv_iload_n hx hb dX6_says_70 rfl (lv_at hl 2 rfl) ?_
            refine lv_iload hx hb dX6_says_71 (lv_at hl 0 rfl) ?_
            refine lv_bipush (v := 11) hx hb dX6_says_73 (by decide +kernel) ?_
            refine lv_icmp_ge (tgt := 88) hx hb dX6_says_75 (by decide +kernel) (fun c_31 => ?_) (fun c_31 => ?_)
            · exact absurd c_31 (c_15)
            refine g_aget (D := G.1) (ci := 6) (v := .ref na) (C := RX6) (T := TX6) (N := 42) hx hb dX6_says_78 rfl (lv_at hl 4 rfl) hts hiX6 hown hK hP 0 rfl rfl 29 (by decide +kernel) kf58 (fun _ h9 => h9) rfl dX6_says_79 ?_
            refine lv_iload hx hb dX6_says_82 (lv_at hl 0 rfl) ?_
            refine va_iald (D := G.1) hx hb hK hP 4 0 rfl rfl (i := (fcd ((200 * ru) + k))) (sIx (vOK_nm (f := (fun i => fcd (200 * ru + i))) (k := k) hO1 (Int32.not_le.mp c_15))) dX6_says_84 ?_
            refine g_topi (y := fna (nC (fcd (200 * ru + k)))) (rfl) ?_
            refine lv_goto (tgt := 93) hx hb dX6_says_85 (by decide +kernel) ?_
            refine g_iast (D := G.1) hx hb hK hP hD hS 3 0 rfl rfl (k := L.length) (x := (fna (nC (fcd (200 * ru + k))))) (by omega) rfl dX6_says_93 (fun H locs hP hD hS => ?_)
            have hz9 : gPD G A [zo6 h0 (nI pb) kd mo st (nI jg) ro tp (nI td) cd sr (nI tx) (nI ru) him ir ih ss sq ce lw s19 s20 s21 s22 wo he s25 s26 s27 sk na kp s31 s32 s33 s34 gb go fa ga s39 s40 vo, zi G cd 1200 fcd, zi G sr 24 (nF fsr), zi G sk 200 (upd y L.length (fna (nC (fcd (200 * ru + k))))), zi G na 6 fna] H := ⟨hP, hD⟩
            have hP := hz9.1
            have hD := hz9.2
            refine lv_iinc (v := nI (L.length + 1)) (lv' := [zI 2 (nI (L.length + 1)), zI 4 (fcd ((200 * ru) + k)), zI 3 (nI k), zI 1 (nI pt), zR 0 h0]) hx hb dX6_says_94 hl (k := 2) rfl (nI_add L.length 1) (by decide +kernel) rfl (fun ls hl => ?_)
            refine lv_goto (tgt := 191) hx hb dX6_says_97 (by decide +kernel) ?_
            refine lv_iinc (v := nI (k + 1)) (lv' := [zI 3 (nI (k + 1)), zI 2 (nI (L.length + 1)), zI 4 (fcd ((200 * ru) + k)), zI 1 (nI pt), zR 0 h0]) hx hb dX6_says_191 hl (k := 2) rfl (nI_add k 1) (by decide +kernel) rfl (fun ls hl => ?_)
            refine lv_goto (tgt := 16) hx hb dX6_says_194 (by decide +kernel) ?_
            exact ih9 (k + 1) ((fna (nC (fcd (200 * ru + k)))) :: L) (upd y L.length (fna (nC (fcd (200 * ru + k))))) (⟨by omega, by omega⟩) (by have := (vOK_push hO1 (Or.inr (Int32.not_le.mp c_15))).1; show L.length + 1 ≤ 200; omega) ((vOK_push hO1 (Or.inr (Int32.not_le.mp c_15))).2) (⟨upd_at, sAg_upd (Nat.le_refl _) hY⟩) (by rw [← hR, show fsr (4 * ru + pt + 1) - k = fsr (4 * ru + pt + 1) - (k + 1) + 1 by omega, vRun]; rw [vStep_n (Int32.not_le.mp c_15)]) (by omega) _ _ hP hD hS ls (lv_sub hl [0, 1, 3, 4] rfl)
  exact loop_16 (fsr (4 * ru + pt + 1) - fsr (4 * ru + pt) + 1) (fsr (4 * ru + pt)) ([]) fsk (⟨Nat.le_refl _, wa⟩) (by decide +kernel) (wc) (trivial) (rfl) (by omega) _ _ hP hD hS ls (lv_sub hl [0, 1, 3, 2] rfl)
