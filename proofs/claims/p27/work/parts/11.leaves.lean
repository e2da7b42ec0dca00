theorem pp_X5_within_1 (v : Int32) (mo : Int32) (c_1 : v < 0) : (0 : Int32) = bz (decide (0 ≤ v ∧ v ≤ mo)) := by
  first
    | rfl
    | exact bz_pos (by (first | omega | (simp only [Int32.lt_iff_toInt_lt, Int32.le_iff_toInt_le, ← Int32.toInt_inj, Int32.reduceToInt] at * <;> omega)))
    | exact bz_neg (by (first | omega | (simp only [Int32.lt_iff_toInt_lt, Int32.le_iff_toInt_le, ← Int32.toInt_inj, Int32.reduceToInt] at * <;> omega)))
    | ((repeat' split) <;> first | rfl | assumption | (symm; assumption) | (exfalso; (first | omega | (simp only [Int32.lt_iff_toInt_lt, Int32.le_iff_toInt_le, ← Int32.toInt_inj, Int32.reduceToInt] at * <;> omega))))
theorem pp_X5_within_2 (v : Int32) (mo : Int32) (c_1 : ¬ (v < 0)) (c_2 : mo < v) : (0 : Int32) = bz (decide (0 ≤ v ∧ v ≤ mo)) := by
  first
    | rfl
    | exact bz_pos (by (first | omega | (simp only [Int32.lt_iff_toInt_lt, Int32.le_iff_toInt_le, ← Int32.toInt_inj, Int32.reduceToInt] at * <;> omega)))
    | exact bz_neg (by (first | omega | (simp only [Int32.lt_iff_toInt_lt, Int32.le_iff_toInt_le, ← Int32.toInt_inj, Int32.reduceToInt] at * <;> omega)))
    | ((repeat' split) <;> first | rfl | assumption | (symm; assumption) | (exfalso; (first | omega | (simp only [Int32.lt_iff_toInt_lt, Int32.le_iff_toInt_le, ← Int32.toInt_inj, Int32.reduceToInt] at * <;> omega))))
theorem pp_X5_within_3 (v : Int32) (mo : Int32) (c_1 : ¬ (v < 0)) (c_2 : ¬ (mo < v)) : (1 : Int32) = bz (decide (0 ≤ v ∧ v ≤ mo)) := by
  first
    | rfl
    | exact bz_pos (by (first | omega | (simp only [Int32.lt_iff_toInt_lt, Int32.le_iff_toInt_le, ← Int32.toInt_inj, Int32.reduceToInt] at * <;> omega)))
    | exact bz_neg (by (first | omega | (simp only [Int32.lt_iff_toInt_lt, Int32.le_iff_toInt_le, ← Int32.toInt_inj, Int32.reduceToInt] at * <;> omega)))
    | ((repeat' split) <;> first | rfl | assumption | (symm; assumption) | (exfalso; (first | omega | (simp only [Int32.lt_iff_toInt_lt, Int32.le_iff_toInt_le, ← Int32.toInt_inj, Int32.reduceToInt] at * <;> omega))))
abbrev q_X5_within (G : gG) (v : Int32) (mo : Int32) (A : Nat → Prop) : Array Value → State → Outcome → State → Prop := va_Qi (fun (r : Int32) (u : Unit) => match u with | _ => r = bz (decide (0 ≤ v ∧ v ≤ mo))) (fun (u : Unit) t => match u with | _ => va_P G.1 vwCl [] t.heap ∧ gK G t ∧ va_D A []) A
set_option maxHeartbeats 4000000 in
set_option maxRecDepth 100000 in
theorem c_X5_within (l : Launch) (G : gG) (v : Int32) (mo : Int32) (sz : Nat) : Met l yX5_within wsX5_within ({ frames := 0, cells := 0, slots := 0, locals := 0 }) (gPre G [.int v, .int mo] [] sz) (q_X5_within G v mo (va_A [] sz)) 0 0 (va_A [] sz) := by
  refine Met.ofW (cc := cX5_within) (maxL := 2) (ret := (some .boolean)) (by decide) rfl ?_
  intro p e s m args below meth c s₁ B hml hv
  obtain ⟨rfl, hsz, hP, hK, hD0⟩ := hv
  have hx := B.exec
  have hb := B.bytes
  have hr := B.returns
  have hts := atoms_spec (ws := wsX5_within) B.pre
  have hown : s.vm.findClass RX5 = some m.cls := findClass_of_methodNamed B.named
  have hlocks := B.notSynchronized
  subst hsz
  have hD := hD0.self (sz := s.heap.size)
  generalize hAe : va_A [] s.heap.size = A at hD ⊢
  have hA : ∀ q : Nat, s.heap.size ≤ q → A q := fun q h => by rw [← hAe]; exact Or.inr h
  have hS : va_S A s.heap s.heap [] := va_S.rf
  have hP : va_P G.1 vwCl [] s.heap := hP
  have hD : va_D A [] := hD
  have hl := lv_entry ([.int v, .int mo]) (n := 2) (Nat.le_of_ble_eq_true rfl)
  rw [lg_entry_eq]
  generalize (lg_sl ([.int v, .int mo]) ++ List.replicate (2 - (lg_sl ([.int v, .int mo])).length) Slot.unset).toArray = ls at hl ⊢
  have hl : lv_has ls 2 [zI 0 v, zI 1 mo] := hl
  refine lv_iload_n hx hb dX5_within_0 rfl (lv_at hl 0 rfl) ?_
  refine lv_if_lt (tgt := 13) hx hb dX5_within_1 (by decide) (fun c_1 => ?_) (fun c_1 => ?_)
  · skip
    refine lv_iconst (v := 0) hx hb dX5_within_13 (by decide) ?_
    have hP9 := hP.sub (ws' := []) [] rfl
    have hD9 := hD.sub (ws' := []) [] (by decide) rfl
    have hpost : (fun (r : Int32) (u : Unit) => match u with | _ => r = bz (decide (0 ≤ v ∧ v ≤ mo))) 0 () := pp_X5_within_1 v mo c_1
    exact W.zret (v := 0) hx hb hr (rfl) (fun t ht hW => ⟨⟨0, (), rfl, hpost, by rw [ht]; exact hP9, va_K.moved hW.alike hK, hD9⟩, hS.F ht⟩) hS.2.2 dX5_within_14
  · skip
    refine lv_iload_n hx hb dX5_within_4 rfl (lv_at hl 0 rfl) ?_
    refine lv_iload_n hx hb dX5_within_5 rfl (lv_at hl 1 rfl) ?_
    refine lv_icmp_gt (tgt := 13) hx hb dX5_within_6 (by decide) (fun c_2 => ?_) (fun c_2 => ?_)
    · skip
      refine lv_iconst (v := 0) hx hb dX5_within_13 (by decide) ?_
      have hP9 := hP.sub (ws' := []) [] rfl
      have hD9 := hD.sub (ws' := []) [] (by decide) rfl
      have hpost : (fun (r : Int32) (u : Unit) => match u with | _ => r = bz (decide (0 ≤ v ∧ v ≤ mo))) 0 () := pp_X5_within_2 v mo c_1 c_2
      exact W.zret (v := 0) hx hb hr (rfl) (fun t ht hW => ⟨⟨0, (), rfl, hpost, by rw [ht]; exact hP9, va_K.moved hW.alike hK, hD9⟩, hS.F ht⟩) hS.2.2 dX5_within_14
    · skip
      refine lv_iconst (v := 1) hx hb dX5_within_9 (by decide) ?_
      refine lv_goto (tgt := 14) hx hb dX5_within_10 (by decide) ?_
      have hP9 := hP.sub (ws' := []) [] rfl
      have hD9 := hD.sub (ws' := []) [] (by decide) rfl
      have hpost : (fun (r : Int32) (u : Unit) => match u with | _ => r = bz (decide (0 ≤ v ∧ v ≤ mo))) 1 () := pp_X5_within_3 v mo c_1 c_2
      exact W.zret (v := 1) hx hb hr (rfl) (fun t ht hW => ⟨⟨1, (), rfl, hpost, by rw [ht]; exact hP9, va_K.moved hW.alike hK, hD9⟩, hS.F ht⟩) hS.2.2 dX5_within_14
abbrev q_X5_isByte (G : gG) (v : Int32) (A : Nat → Prop) : Array Value → State → Outcome → State → Prop := va_Qi (fun (r : Int32) (u : Unit) => match u with | _ => r = bz (decide (0 ≤ v ∧ v ≤ 255))) (fun (u : Unit) t => match u with | _ => va_P G.1 vwCl [] t.heap ∧ gK G t ∧ va_D A []) A
set_option maxHeartbeats 4000000 in
set_option maxRecDepth 100000 in
theorem c_X5_isByte (l : Launch) (G : gG) (v : Int32) (sz : Nat) : Met l yX5_isByte wsX5_isByte ({ frames := 1, cells := 0, slots := 0, locals := 21 }) (gPre G [.int v] [] sz) (q_X5_isByte G v (va_A [] sz)) 0 0 (va_A [] sz) := by
  refine Met.ofW (cc := cX5_isByte) (maxL := 1) (ret := (some .boolean)) (by decide) rfl ?_
  intro p e s m args below meth c s₁ B hml hv
  obtain ⟨rfl, hsz, hP, hK, hD0⟩ := hv
  have hx := B.exec
  have hb := B.bytes
  have hr := B.returns
  have hts := atoms_spec (ws := wsX5_isByte) B.pre
  have hown : s.vm.findClass RX5 = some m.cls := findClass_of_methodNamed B.named
  have hlocks := B.notSynchronized
  subst hsz
  have hD := hD0.self (sz := s.heap.size)
  generalize hAe : va_A [] s.heap.size = A at hD ⊢
  have hA : ∀ q : Nat, s.heap.size ≤ q → A q := fun q h => by rw [← hAe]; exact Or.inr h
  have hS : va_S A s.heap s.heap [] := va_S.rf
  have hP : va_P G.1 vwCl [] s.heap := hP
  have hD : va_D A [] := hD
  have hl := lv_entry ([.int v]) (n := 1) (Nat.le_of_ble_eq_true rfl)
  rw [lg_entry_eq]
  generalize (lg_sl ([.int v]) ++ List.replicate (1 - (lg_sl ([.int v])).length) Slot.unset).toArray = ls at hl ⊢
  have hl : lv_has ls 1 [zI 0 v] := hl
  refine lv_iload_n hx hb dX5_isByte_0 rfl (lv_at hl 0 rfl) ?_
  refine lv_sipush (v := 255) hx hb dX5_isByte_1 (by decide) ?_
  have hPc : va_P G.1 vwCl [] s.heap := hP.sub [] rfl
  have hDc : va_D A [] := hD.sub [] (by decide) rfl
  have hFc := va_free (wc := []) hD hS hA [] rfl
  refine va_calli (va_runS (As := [.int v, .int 255]) (rest := []) ⟨hx, hb, hml, hown, hts⟩ (c_X5_within l G v 255 s.heap.size) (va_cwS 2 hts gX5_isByte_X5_within rfl rfl rfl (by decide +kernel) ⟨Nat.le_of_ble_eq_true rfl, Nat.le_of_ble_eq_true rfl⟩) ⟨gPre_blind, fun U hU hW => gPre_of hU hW hK hPc hDc⟩ rfl rfl hl.1 rfl (lv_room (Nat.le_of_ble_eq_true rfl)) dX5_isByte_4 ⟨Nat.le_of_ble_eq_true rfl, Nat.le_of_ble_eq_true rfl⟩) hS (fun q _ h => hFc q h) hFc (fun r_1 u t H locs ht hvm w_2 hB hz1 hk1 hS => ?_)
  obtain ⟨hP1, hK1, hD1⟩ := hB
  rw [ht] at hP1
  have hP1 : va_P G.1 vwCl [] H := hP1
  have hD1 : va_D (va_A [] s.heap.size) [] := hD1
  have w_2 : r_1 = bz (decide (0 ≤ v ∧ v ≤ 255)) := w_2
  obtain ⟨hP, hD⟩ := va_join (wr := []) (w1 := []) hP hD [] [] rfl rfl (by decide) (by decide) hk1 hFc hP1 hD1
  have hP : va_P G.1 vwCl [] H := hP
  have hD : va_D A [] := hD
  have hP9 := hP.sub (ws' := []) [] rfl
  have hD9 := hD.sub (ws' := []) [] (by decide) rfl
  have hpost : (fun (r : Int32) (u : Unit) => match u with | _ => r = bz (decide (0 ≤ v ∧ v ≤ 255))) r_1 () := w_2
  exact W.zret (v := r_1) hx hb hr (by rw [w_2]; exact bz_nar _) (fun t ht hW => ⟨⟨r_1, (), rfl, hpost, by rw [ht]; exact hP9, va_K.moved hW.alike hK, hD9⟩, hS.F ht⟩) hS.2.2 dX5_isByte_7
theorem pp_X0_hasJudge_1 (nj : Int32) (np : Int32) (lw : Int32) (j : Int32) (c_1 : j < 0) : (0 : Int32) = bz (decide (0 ≤ j ∧ j < nj)) := by
  first
    | rfl
    | exact bz_pos (by (first | omega | (simp only [Int32.lt_iff_toInt_lt, Int32.le_iff_toInt_le, ← Int32.toInt_inj, Int32.reduceToInt] at * <;> omega)))
    | exact bz_neg (by (first | omega | (simp only [Int32.lt_iff_toInt_lt, Int32.le_iff_toInt_le, ← Int32.toInt_inj, Int32.reduceToInt] at * <;> omega)))
    | ((repeat' split) <;> first | rfl | assumption | (symm; assumption) | (exfalso; (first | omega | (simp only [Int32.lt_iff_toInt_lt, Int32.le_iff_toInt_le, ← Int32.toInt_inj, Int32.reduceToInt] at * <;> omega))))
theorem pp_X0_hasJudge_2 (nj : Int32) (np : Int32) (lw : Int32) (j : Int32) (c_1 : ¬ (j < 0)) (c_2 : nj ≤ j) : (0 : Int32) = bz (decide (0 ≤ j ∧ j < nj)) := by
  first
    | rfl
    | exact bz_pos (by (first | omega | (simp only [Int32.lt_iff_toInt_lt, Int32.le_iff_toInt_le, ← Int32.toInt_inj, Int32.reduceToInt] at * <;> omega)))
    | exact bz_neg (by (first | omega | (simp only [Int32.lt_iff_toInt_lt, Int32.le_iff_toInt_le, ← Int32.toInt_inj, Int32.reduceToInt] at * <;> omega)))
    | ((repeat' split) <;> first | rfl | assumption | (symm; assumption) | (exfalso; (first | omega | (simp only [Int32.lt_iff_toInt_lt, Int32.le_iff_toInt_le, ← Int32.toInt_inj, Int32.reduceToInt] at * <;> omega))))
theorem pp_X0_hasJudge_3 (nj : Int32) (np : Int32) (lw : Int32) (j : Int32) (c_1 : ¬ (j < 0)) (c_2 : ¬ (nj ≤ j)) : (1 : Int32) = bz (decide (0 ≤ j ∧ j < nj)) := by
  first
    | rfl
    | exact bz_pos (by (first | omega | (simp only [Int32.lt_iff_toInt_lt, Int32.le_iff_toInt_le, ← Int32.toInt_inj, Int32.reduceToInt] at * <;> omega)))
    | exact bz_neg (by (first | omega | (simp only [Int32.lt_iff_toInt_lt, Int32.le_iff_toInt_le, ← Int32.toInt_inj, Int32.reduceToInt] at * <;> omega)))
    | ((repeat' split) <;> first | rfl | assumption | (symm; assumption) | (exfalso; (first | omega | (simp only [Int32.lt_iff_toInt_lt, Int32.le_iff_toInt_le, ← Int32.toInt_inj, Int32.reduceToInt] at * <;> omega))))
abbrev q_X0_hasJudge (G : gG) (h0 t0 a1 a2 a3 a4 a5 a6 a7 a8 : Nat) (nj : Int32) (np : Int32) (lw : Int32) (j : Int32) (A : Nat → Prop) : Array Value → State → Outcome → State → Prop := va_Qi (fun (r : Int32) (u : Unit) => match u with | _ => r = bz (decide (0 ≤ j ∧ j < nj))) (fun (u : Unit) t => match u with | _ => va_P G.1 vwCl [zo0 h0 t0 a1 a2 a3 a4 a5 a6 a7 a8 nj np lw] t.heap ∧ gK G t ∧ va_D A [zo0 h0 t0 a1 a2 a3 a4 a5 a6 a7 a8 nj np lw]) A
set_option maxHeartbeats 4000000 in
set_option maxRecDepth 100000 in
theorem c_X0_hasJudge (l : Launch) (G : gG) (h0 t0 a1 a2 a3 a4 a5 a6 a7 a8 : Nat) (nj : Int32) (np : Int32) (lw : Int32) (j : Int32) (sz : Nat) : Met l yX0_hasJudge wsX0_hasJudge ({ frames := 0, cells := 0, slots := 0, locals := 0 }) (gPre G [.ref h0, .int j] [zo0 h0 t0 a1 a2 a3 a4 a5 a6 a7 a8 nj np lw] sz) (q_X0_hasJudge G h0 t0 a1 a2 a3 a4 a5 a6 a7 a8 nj np lw j (va_A [zo0 h0 t0 a1 a2 a3 a4 a5 a6 a7 a8 nj np lw] sz)) 0 0 (va_A [zo0 h0 t0 a1 a2 a3 a4 a5 a6 a7 a8 nj np lw] sz) := by
  refine Met.ofW (cc := cX0_hasJudge) (maxL := 2) (ret := (some .boolean)) (by decide) rfl ?_
  intro p e s m args below meth c s₁ B hml hv
  obtain ⟨rfl, hsz, hP, hK, hD0⟩ := hv
  have hx := B.exec
  have hb := B.bytes
  have hr := B.returns
  have hts := atoms_spec (ws := wsX0_hasJudge) B.pre
  have hown : s.vm.findClass RX0 = some m.cls := findClass_of_methodNamed B.named
  have hlocks := B.notSynchronized
  subst hsz
  have hD := hD0.self (sz := s.heap.size)
  generalize hAe : va_A [zo0 h0 t0 a1 a2 a3 a4 a5 a6 a7 a8 nj np lw] s.heap.size = A at hD ⊢
  have hA : ∀ q : Nat, s.heap.size ≤ q → A q := fun q h => by rw [← hAe]; exact Or.inr h
  have hS : va_S A s.heap s.heap [] := va_S.rf
  have hP : va_P G.1 vwCl [zo0 h0 t0 a1 a2 a3 a4 a5 a6 a7 a8 nj np lw] s.heap := hP
  have hD : va_D A [zo0 h0 t0 a1 a2 a3 a4 a5 a6 a7 a8 nj np lw] := hD
  have hl := lv_entry ([.ref h0, .int j]) (n := 2) (Nat.le_of_ble_eq_true rfl)
  rw [lg_entry_eq]
  generalize (lg_sl ([.ref h0, .int j]) ++ List.replicate (2 - (lg_sl ([.ref h0, .int j])).length) Slot.unset).toArray = ls at hl ⊢
  have hl : lv_has ls 2 [zR 0 h0, zI 1 j] := hl
  have kf48 := hts (.fieldLink RX0 48 "PebbleInShoe$Court" "judges" "I") (by decide +kernel)
  have hiX0 := (by decide +kernel : ∀ w ∈ wsX00, w ∈ wsX0_hasJudge)
  refine lv_iload_n hx hb dX0_hasJudge_0 rfl (lv_at hl 1 rfl) ?_
  refine lv_if_lt (tgt := 16) hx hb dX0_hasJudge_1 (by decide) (fun c_1 => ?_) (fun c_1 => ?_)
  · skip
    refine lv_iconst (v := 0) hx hb dX0_hasJudge_16 (by decide) ?_
    have hP9 := hP.sub (ws' := [zo0 h0 t0 a1 a2 a3 a4 a5 a6 a7 a8 nj np lw]) [0] rfl
    have hD9 := hD.sub (ws' := [zo0 h0 t0 a1 a2 a3 a4 a5 a6 a7 a8 nj np lw]) [0] (by decide) rfl
    have hpost : (fun (r : Int32) (u : Unit) => match u with | _ => r = bz (decide (0 ≤ j ∧ j < nj))) 0 () := pp_X0_hasJudge_1 nj np lw j c_1
    exact W.zret (v := 0) hx hb hr (rfl) (fun t ht hW => ⟨⟨0, (), rfl, hpost, by rw [ht]; exact hP9, va_K.moved hW.alike hK, hD9⟩, hS.F ht⟩) hS.2.2 dX0_hasJudge_17
  · skip
    refine lv_iload_n hx hb dX0_hasJudge_4 rfl (lv_at hl 1 rfl) ?_
    refine lv_aload_n hx hb dX0_hasJudge_5 rfl (lv_at hl 0 rfl) ?_
    refine va_get (D := G.1) (ci := 0) (v := .int nj) (C := RX0) (T := TX0) (N := 12) hx hb hts hiX0 hown hK hP 0 rfl rfl 9 (by decide) kf48 (fun _ h9 => h9) rfl dX0_hasJudge_6 ?_
    refine lv_icmp_ge (tgt := 16) hx hb dX0_hasJudge_9 (by decide) (fun c_2 => ?_) (fun c_2 => ?_)
    · skip
      refine lv_iconst (v := 0) hx hb dX0_hasJudge_16 (by decide) ?_
      have hP9 := hP.sub (ws' := [zo0 h0 t0 a1 a2 a3 a4 a5 a6 a7 a8 nj np lw]) [0] rfl
      have hD9 := hD.sub (ws' := [zo0 h0 t0 a1 a2 a3 a4 a5 a6 a7 a8 nj np lw]) [0] (by decide) rfl
      have hpost : (fun (r : Int32) (u : Unit) => match u with | _ => r = bz (decide (0 ≤ j ∧ j < nj))) 0 () := pp_X0_hasJudge_2 nj np lw j c_1 c_2
      exact W.zret (v := 0) hx hb hr (rfl) (fun t ht hW => ⟨⟨0, (), rfl, hpost, by rw [ht]; exact hP9, va_K.moved hW.alike hK, hD9⟩, hS.F ht⟩) hS.2.2 dX0_hasJudge_17
    · skip
      refine lv_iconst (v := 1) hx hb dX0_hasJudge_12 (by decide) ?_
      refine lv_goto (tgt := 17) hx hb dX0_hasJudge_13 (by decide) ?_
      have hP9 := hP.sub (ws' := [zo0 h0 t0 a1 a2 a3 a4 a5 a6 a7 a8 nj np lw]) [0] rfl
      have hD9 := hD.sub (ws' := [zo0 h0 t0 a1 a2 a3 a4 a5 a6 a7 a8 nj np lw]) [0] (by decide) rfl
      have hpost : (fun (r : Int32) (u : Unit) => match u with | _ => r = bz (decide (0 ≤ j ∧ j < nj))) 1 () := pp_X0_hasJudge_3 nj np lw j c_1 c_2
      exact W.zret (v := 1) hx hb hr (rfl) (fun t ht hW => ⟨⟨1, (), rfl, hpost, by rw [ht]; exact hP9, va_K.moved hW.alike hK, hD9⟩, hS.F ht⟩) hS.2.2 dX0_hasJudge_17
theorem pp_X0_hasPebble_1 (nj : Int32) (np : Int32) (lw : Int32) (j : Int32) (c_1 : j < 0) : (0 : Int32) = bz (decide (0 ≤ j ∧ j < np)) := by
  first
    | rfl
    | exact bz_pos (by (first | omega | (simp only [Int32.lt_iff_toInt_lt, Int32.le_iff_toInt_le, ← Int32.toInt_inj, Int32.reduceToInt] at * <;> omega)))
    | exact bz_neg (by (first | omega | (simp only [Int32.lt_iff_toInt_lt, Int32.le_iff_toInt_le, ← Int32.toInt_inj, Int32.reduceToInt] at * <;> omega)))
    | ((repeat' split) <;> first | rfl | assumption | (symm; assumption) | (exfalso; (first | omega | (simp only [Int32.lt_iff_toInt_lt, Int32.le_iff_toInt_le, ← Int32.toInt_inj, Int32.reduceToInt] at * <;> omega))))
theorem pp_X0_hasPebble_2 (nj : Int32) (np : Int32) (lw : Int32) (j : Int32) (c_1 : ¬ (j < 0)) (c_2 : np ≤ j) : (0 : Int32) = bz (decide (0 ≤ j ∧ j < np)) := by
  first
    | rfl
    | exact bz_pos (by (first | omega | (simp only [Int32.lt_iff_toInt_lt, Int32.le_iff_toInt_le, ← Int32.toInt_inj, Int32.reduceToInt] at * <;> omega)))
    | exact bz_neg (by (first | omega | (simp only [Int32.lt_iff_toInt_lt, Int32.le_iff_toInt_le, ← Int32.toInt_inj, Int32.reduceToInt] at * <;> omega)))
    | ((repeat' split) <;> first | rfl | assumption | (symm; assumption) | (exfalso; (first | omega | (simp only [Int32.lt_iff_toInt_lt, Int32.le_iff_toInt_le, ← Int32.toInt_inj, Int32.reduceToInt] at * <;> omega))))
theorem pp_X0_hasPebble_3 (nj : Int32) (np : Int32) (lw : Int32) (j : Int32) (c_1 : ¬ (j < 0)) (c_2 : ¬ (np ≤ j)) : (1 : Int32) = bz (decide (0 ≤ j ∧ j < np)) := by
  first
    | rfl
    | exact bz_pos (by (first | omega | (simp only [Int32.lt_iff_toInt_lt, Int32.le_iff_toInt_le, ← Int32.toInt_inj, Int32.reduceToInt] at * <;> omega)))
    | exact bz_neg (by (first | omega | (simp only [Int32.lt_iff_toInt_lt, Int32.le_iff_toInt_le, ← Int32.toInt_inj, Int32.reduceToInt] at * <;> omega)))
    | ((repeat' split) <;> first | rfl | assumption | (symm; assumption) | (exfalso; (first | omega | (simp only [Int32.lt_iff_toInt_lt, Int32.le_iff_toInt_le, ← Int32.toInt_inj, Int32.reduceToInt] at * <;> omega))))
abbrev q_X0_hasPebble (G : gG) (h0 t0 a1 a2 a3 a4 a5 a6 a7 a8 : Nat) (nj : Int32) (np : Int32) (lw : Int32) (j : Int32) (A : Nat → Prop) : Array Value → State → Outcome → State → Prop := va_Qi (fun (r : Int32) (u : Unit) => match u with | _ => r = bz (decide (0 ≤ j ∧ j < np))) (fun (u : Unit) t => match u with | _ => va_P G.1 vwCl [zo0 h0 t0 a1 a2 a3 a4 a5 a6 a7 a8 nj np lw] t.heap ∧ gK G t ∧ va_D A [zo0 h0 t0 a1 a2 a3 a4 a5 a6 a7 a8 nj np lw]) A
set_option maxHeartbeats 4000000 in
set_option maxRecDepth 100000 in
theorem c_X0_hasPebble (l : Launch) (G : gG) (h0 t0 a1 a2 a3 a4 a5 a6 a7 a8 : Nat) (nj : Int32) (np : Int32) (lw : Int32) (j : Int32) (sz : Nat) : Met l yX0_hasPebble wsX0_hasPebble ({ frames := 0, cells := 0, slots := 0, locals := 0 }) (gPre G [.ref h0, .int j] [zo0 h0 t0 a1 a2 a3 a4 a5 a6 a7 a8 nj np lw] sz) (q_X0_hasPebble G h0 t0 a1 a2 a3 a4 a5 a6 a7 a8 nj np lw j (va_A [zo0 h0 t0 a1 a2 a3 a4 a5 a6 a7 a8 nj np lw] sz)) 0 0 (va_A [zo0 h0 t0 a1 a2 a3 a4 a5 a6 a7 a8 nj np lw] sz) := by
  refine Met.ofW (cc := cX0_hasPebble) (maxL := 2) (ret := (some .boolean)) (by decide) rfl ?_
  intro p e s m args below meth c s₁ B hml hv
  obtain ⟨rfl, hsz, hP, hK, hD0⟩ := hv
  have hx := B.exec
  have hb := B.bytes
  have hr := B.returns
  have hts := atoms_spec (ws := wsX0_hasPebble) B.pre
  have hown : s.vm.findClass RX0 = some m.cls := findClass_of_methodNamed B.named
  have hlocks := B.notSynchronized
  subst hsz
  have hD := hD0.self (sz := s.heap.size)
  generalize hAe : va_A [zo0 h0 t0 a1 a2 a3 a4 a5 a6 a7 a8 nj np lw] s.heap.size = A at hD ⊢
  have hA : ∀ q : Nat, s.heap.size ≤ q → A q := fun q h => by rw [← hAe]; exact Or.inr h
  have hS : va_S A s.heap s.heap [] := va_S.rf
  have hP : va_P G.1 vwCl [zo0 h0 t0 a1 a2 a3 a4 a5 a6 a7 a8 nj np lw] s.heap := hP
  have hD : va_D A [zo0 h0 t0 a1 a2 a3 a4 a5 a6 a7 a8 nj np lw] := hD
  have hl := lv_entry ([.ref h0, .int j]) (n := 2) (Nat.le_of_ble_eq_true rfl)
  rw [lg_entry_eq]
  generalize (lg_sl ([.ref h0, .int j]) ++ List.replicate (2 - (lg_sl ([.ref h0, .int j])).length) Slot.unset).toArray = ls at hl ⊢
  have hl : lv_has ls 2 [zR 0 h0, zI 1 j] := hl
  have kf52 := hts (.fieldLink RX0 52 "PebbleInShoe$Court" "pebbles" "I") (by decide +kernel)
  have hiX0 := (by decide +kernel : ∀ w ∈ wsX00, w ∈ wsX0_hasPebble)
  refine lv_iload_n hx hb dX0_hasPebble_0 rfl (lv_at hl 1 rfl) ?_
  refine lv_if_lt (tgt := 16) hx hb dX0_hasPebble_1 (by decide) (fun c_1 => ?_) (fun c_1 => ?_)
  · skip
    refine lv_iconst (v := 0) hx hb dX0_hasPebble_16 (by decide) ?_
    have hP9 := hP.sub (ws' := [zo0 h0 t0 a1 a2 a3 a4 a5 a6 a7 a8 nj np lw]) [0] rfl
    have hD9 := hD.sub (ws' := [zo0 h0 t0 a1 a2 a3 a4 a5 a6 a7 a8 nj np lw]) [0] (by decide) rfl
    have hpost : (fun (r : Int32) (u : Unit) => match u with | _ => r = bz (decide (0 ≤ j ∧ j < np))) 0 () := pp_X0_hasPebble_1 nj np lw j c_1
    exact W.zret (v := 0) hx hb hr (rfl) (fun t ht hW => ⟨⟨0, (), rfl, hpost, by rw [ht]; exact hP9, va_K.moved hW.alike hK, hD9⟩, hS.F ht⟩) hS.2.2 dX0_hasPebble_17
  · skip
    refine lv_iload_n hx hb dX0_hasPebble_4 rfl (lv_at hl 1 rfl) ?_
    refine lv_aload_n hx hb dX0_hasPebble_5 rfl (lv_at hl 0 rfl) ?_
    refine va_get (D := G.1) (ci := 0) (v := .int np) (C := RX0) (T := TX0) (N := 12) hx hb hts hiX0 hown hK hP 0 rfl rfl 10 (by decide) kf52 (fun _ h9 => h9) rfl dX0_hasPebble_6 ?_
    refine lv_icmp_ge (tgt := 16) hx hb dX0_hasPebble_9 (by decide) (fun c_2 => ?_) (fun c_2 => ?_)
    · skip
      refine lv_iconst (v := 0) hx hb dX0_hasPebble_16 (by decide) ?_
      have hP9 := hP.sub (ws' := [zo0 h0 t0 a1 a2 a3 a4 a5 a6 a7 a8 nj np lw]) [0] rfl
      have hD9 := hD.sub (ws' := [zo0 h0 t0 a1 a2 a3 a4 a5 a6 a7 a8 nj np lw]) [0] (by decide) rfl
      have hpost : (fun (r : Int32) (u : Unit) => match u with | _ => r = bz (decide (0 ≤ j ∧ j < np))) 0 () := pp_X0_hasPebble_2 nj np lw j c_1 c_2
      exact W.zret (v := 0) hx hb hr (rfl) (fun t ht hW => ⟨⟨0, (), rfl, hpost, by rw [ht]; exact hP9, va_K.moved hW.alike hK, hD9⟩, hS.F ht⟩) hS.2.2 dX0_hasPebble_17
    · skip
      refine lv_iconst (v := 1) hx hb dX0_hasPebble_12 (by decide) ?_
      refine lv_goto (tgt := 17) hx hb dX0_hasPebble_13 (by decide) ?_
      have hP9 := hP.sub (ws' := [zo0 h0 t0 a1 a2 a3 a4 a5 a6 a7 a8 nj np lw]) [0] rfl
      have hD9 := hD.sub (ws' := [zo0 h0 t0 a1 a2 a3 a4 a5 a6 a7 a8 nj np lw]) [0] (by decide) rfl
      have hpost : (fun (r : Int32) (u : Unit) => match u with | _ => r = bz (decide (0 ≤ j ∧ j < np))) 1 () := pp_X0_hasPebble_3 nj np lw j c_1 c_2
      exact W.zret (v := 1) hx hb hr (rfl) (fun t ht hW => ⟨⟨1, (), rfl, hpost, by rw [ht]; exact hP9, va_K.moved hW.alike hK, hD9⟩, hS.F ht⟩) hS.2.2 dX0_hasPebble_17
theorem pp_X0_hasBoth_1 (nj : Int32) (np : Int32) (lw : Int32) (j : Int32) (q : Int32) (n_5 : ¬ (0 ≤ j ∧ j < nj)) : (0 : Int32) = bz (decide ((0 ≤ j ∧ j < nj) ∧ (0 ≤ q ∧ q < np))) := by
  first
    | rfl
    | exact bz_pos (by (first | omega | (simp only [Int32.lt_iff_toInt_lt, Int32.le_iff_toInt_le, ← Int32.toInt_inj, Int32.reduceToInt] at * <;> omega)))
    | exact bz_neg (by (first | omega | (simp only [Int32.lt_iff_toInt_lt, Int32.le_iff_toInt_le, ← Int32.toInt_inj, Int32.reduceToInt] at * <;> omega)))
    | ((repeat' split) <;> first | rfl | assumption | (symm; assumption) | (exfalso; (first | omega | (simp only [Int32.lt_iff_toInt_lt, Int32.le_iff_toInt_le, ← Int32.toInt_inj, Int32.reduceToInt] at * <;> omega))))
theorem pp_X0_hasBoth_2 (nj : Int32) (np : Int32) (lw : Int32) (j : Int32) (q : Int32) (p_4 : 0 ≤ j ∧ j < nj) (n_10 : ¬ (0 ≤ q ∧ q < np)) : (0 : Int32) = bz (decide ((0 ≤ j ∧ j < nj) ∧ (0 ≤ q ∧ q < np))) := by
  first
    | rfl
    | exact bz_pos (by (first | omega | (simp only [Int32.lt_iff_toInt_lt, Int32.le_iff_toInt_le, ← Int32.toInt_inj, Int32.reduceToInt] at * <;> omega)))
    | exact bz_neg (by (first | omega | (simp only [Int32.lt_iff_toInt_lt, Int32.le_iff_toInt_le, ← Int32.toInt_inj, Int32.reduceToInt] at * <;> omega)))
    | ((repeat' split) <;> first | rfl | assumption | (symm; assumption) | (exfalso; (first | omega | (simp only [Int32.lt_iff_toInt_lt, Int32.le_iff_toInt_le, ← Int32.toInt_inj, Int32.reduceToInt] at * <;> omega))))
theorem pp_X0_hasBoth_3 (nj : Int32) (np : Int32) (lw : Int32) (j : Int32) (q : Int32) (p_4 : 0 ≤ j ∧ j < nj) (p_9 : 0 ≤ q ∧ q < np) : (1 : Int32) = bz (decide ((0 ≤ j ∧ j < nj) ∧ (0 ≤ q ∧ q < np))) := by
  first
    | rfl
    | exact bz_pos (by (first | omega | (simp only [Int32.lt_iff_toInt_lt, Int32.le_iff_toInt_le, ← Int32.toInt_inj, Int32.reduceToInt] at * <;> omega)))
    | exact bz_neg (by (first | omega | (simp only [Int32.lt_iff_toInt_lt, Int32.le_iff_toInt_le, ← Int32.toInt_inj, Int32.reduceToInt] at * <;> omega)))
    | ((repeat' split) <;> first | rfl | assumption | (symm; assumption) | (exfalso; (first | omega | (simp only [Int32.lt_iff_toInt_lt, Int32.le_iff_toInt_le, ← Int32.toInt_inj, Int32.reduceToInt] at * <;> omega))))
abbrev q_X0_hasBoth (G : gG) (h0 t0 a1 a2 a3 a4 a5 a6 a7 a8 : Nat) (nj : Int32) (np : Int32) (lw : Int32) (j : Int32) (q : Int32) (A : Nat → Prop) : Array Value → State → Outcome → State → Prop := va_Qi (fun (r : Int32) (u : Unit) => match u with | _ => r = bz (decide ((0 ≤ j ∧ j < nj) ∧ (0 ≤ q ∧ q < np)))) (fun (u : Unit) t => match u with | _ => va_P G.1 vwCl [zo0 h0 t0 a1 a2 a3 a4 a5 a6 a7 a8 nj np lw] t.heap ∧ gK G t ∧ va_D A [zo0 h0 t0 a1 a2 a3 a4 a5 a6 a7 a8 nj np lw]) A
set_option maxHeartbeats 4000000 in
set_option maxRecDepth 100000 in
theorem c_X0_hasBoth (l : Launch) (G : gG) (h0 t0 a1 a2 a3 a4 a5 a6 a7 a8 : Nat) (nj : Int32) (np : Int32) (lw : Int32) (j : Int32) (q : Int32) (sz : Nat) : Met l yX0_hasBoth wsX0_hasBoth ({ frames := 1, cells := 0, slots := 0, locals := 21 }) (gPre G [.ref h0, .int j, .int q] [zo0 h0 t0 a1 a2 a3 a4 a5 a6 a7 a8 nj np lw] sz) (q_X0_hasBoth G h0 t0 a1 a2 a3 a4 a5 a6 a7 a8 nj np lw j q (va_A [zo0 h0 t0 a1 a2 a3 a4 a5 a6 a7 a8 nj np lw] sz)) 0 0 (va_A [zo0 h0 t0 a1 a2 a3 a4 a5 a6 a7 a8 nj np lw] sz) := by
  refine Met.ofW (cc := cX0_hasBoth) (maxL := 3) (ret := (some .boolean)) (by decide) rfl ?_
  intro p e s m args below meth c s₁ B hml hv
  obtain ⟨rfl, hsz, hP, hK, hD0⟩ := hv
  have hx := B.exec
  have hb := B.bytes
  have hr := B.returns
  have hts := atoms_spec (ws := wsX0_hasBoth) B.pre
  have hown : s.vm.findClass RX0 = some m.cls := findClass_of_methodNamed B.named
  have hlocks := B.notSynchronized
  subst hsz
  have hD := hD0.self (sz := s.heap.size)
  generalize hAe : va_A [zo0 h0 t0 a1 a2 a3 a4 a5 a6 a7 a8 nj np lw] s.heap.size = A at hD ⊢
  have hA : ∀ q : Nat, s.heap.size ≤ q → A q := fun q h => by rw [← hAe]; exact Or.inr h
  have hS : va_S A s.heap s.heap [] := va_S.rf
  have hP : va_P G.1 vwCl [zo0 h0 t0 a1 a2 a3 a4 a5 a6 a7 a8 nj np lw] s.heap := hP
  have hD : va_D A [zo0 h0 t0 a1 a2 a3 a4 a5 a6 a7 a8 nj np lw] := hD
  have hl := lv_entry ([.ref h0, .int j, .int q]) (n := 3) (Nat.le_of_ble_eq_true rfl)
  rw [lg_entry_eq]
  generalize (lg_sl ([.ref h0, .int j, .int q]) ++ List.replicate (3 - (lg_sl ([.ref h0, .int j, .int q])).length) Slot.unset).toArray = ls at hl ⊢
  have hl : lv_has ls 3 [zR 0 h0, zI 1 j, zI 2 q] := hl
  refine lv_aload_n hx hb dX0_hasBoth_0 rfl (lv_at hl 0 rfl) ?_
  refine lv_iload_n hx hb dX0_hasBoth_1 rfl (lv_at hl 1 rfl) ?_
  have hPc : va_P G.1 vwCl [zo0 h0 t0 a1 a2 a3 a4 a5 a6 a7 a8 nj np lw] s.heap := hP.sub [0] rfl
  have hDc : va_D A [zo0 h0 t0 a1 a2 a3 a4 a5 a6 a7 a8 nj np lw] := hD.sub [0] (by decide) rfl
  have hFc := va_free (wc := [zo0 h0 t0 a1 a2 a3 a4 a5 a6 a7 a8 nj np lw]) hD hS hA [0] rfl
  refine va_calli (va_runV (As := [.int j]) (rest := []) ⟨hx, hb, hml, hown, hts⟩ (c_X0_hasJudge l G h0 t0 a1 a2 a3 a4 a5 a6 a7 a8 nj np lw j s.heap.size) (cwV 1 hts gX0_hasBoth_X0_hasJudge rfl rfl rfl (by decide +kernel) ⟨Nat.le_of_ble_eq_true rfl, Nat.le_of_ble_eq_true rfl⟩) ⟨gPre_blind, va_recv hK hPc (ci := 0) (q0 := 0) rfl rfl, fun U hU hW => gPre_of hU hW hK hPc hDc⟩ rfl rfl hl.1 rfl (lv_room (Nat.le_of_ble_eq_true rfl)) dX0_hasBoth_2 ⟨Nat.le_of_ble_eq_true rfl, Nat.le_of_ble_eq_true rfl⟩) hS (fun q _ h => hFc q h) hFc (fun r_1 u t H locs ht hvm w_2 hB hz1 hk1 hS => ?_)
  obtain ⟨hP1, hK1, hD1⟩ := hB
  rw [ht] at hP1
  have hP1 : va_P G.1 vwCl [zo0 h0 t0 a1 a2 a3 a4 a5 a6 a7 a8 nj np lw] H := hP1
  have hD1 : va_D (va_A [zo0 h0 t0 a1 a2 a3 a4 a5 a6 a7 a8 nj np lw] s.heap.size) [zo0 h0 t0 a1 a2 a3 a4 a5 a6 a7 a8 nj np lw] := hD1
  have w_2 : r_1 = bz (decide (0 ≤ j ∧ j < nj)) := w_2
  obtain ⟨hP, hD⟩ := va_join (wr := []) (w1 := [zo0 h0 t0 a1 a2 a3 a4 a5 a6 a7 a8 nj np lw]) hP hD [0] [] rfl rfl (by decide) (by decide) hk1 hFc hP1 hD1
  have hP : va_P G.1 vwCl [zo0 h0 t0 a1 a2 a3 a4 a5 a6 a7 a8 nj np lw] H := hP
  have hD : va_D A [zo0 h0 t0 a1 a2 a3 a4 a5 a6 a7 a8 nj np lw] := hD
  refine lv_if_eq (tgt := 20) hx hb dX0_hasBoth_5 (by decide) (fun c_3 => ?_) (fun c_3 => ?_)
  · skip
    have n_5 : ¬ (0 ≤ j ∧ j < nj) := of_decide_eq_false (bz_eq w_2 c_3)
    refine lv_iconst (v := 0) hx hb dX0_hasBoth_20 (by decide) ?_
    have hP9 := hP.sub (ws' := [zo0 h0 t0 a1 a2 a3 a4 a5 a6 a7 a8 nj np lw]) [0] rfl
    have hD9 := hD.sub (ws' := [zo0 h0 t0 a1 a2 a3 a4 a5 a6 a7 a8 nj np lw]) [0] (by decide) rfl
    have hpost : (fun (r : Int32) (u : Unit) => match u with | _ => r = bz (decide ((0 ≤ j ∧ j < nj) ∧ (0 ≤ q ∧ q < np)))) 0 () := pp_X0_hasBoth_1 nj np lw j q n_5
    exact W.zret (v := 0) hx hb hr (rfl) (fun t ht hW => ⟨⟨0, (), rfl, hpost, by rw [ht]; exact hP9, va_K.moved hW.alike hK, hD9⟩, hS.F ht⟩) hS.2.2 dX0_hasBoth_21
  · skip
    have p_4 : 0 ≤ j ∧ j < nj := of_decide_eq_true (bz_ne w_2 c_3)
    refine lv_aload_n hx hb dX0_hasBoth_8 rfl (lv_at hl 0 rfl) ?_
    refine lv_iload_n hx hb dX0_hasBoth_9 rfl (lv_at hl 2 rfl) ?_
    have hPc : va_P G.1 vwCl [zo0 h0 t0 a1 a2 a3 a4 a5 a6 a7 a8 nj np lw] H := hP.sub [0] rfl
    have hDc : va_D A [zo0 h0 t0 a1 a2 a3 a4 a5 a6 a7 a8 nj np lw] := hD.sub [0] (by decide) rfl
    have hFc := va_free (wc := [zo0 h0 t0 a1 a2 a3 a4 a5 a6 a7 a8 nj np lw]) hD hS hA [0] rfl
    refine va_calli (va_runV (As := [.int q]) (rest := []) ⟨hx, hb, hml, hown, hts⟩ (c_X0_hasPebble l G h0 t0 a1 a2 a3 a4 a5 a6 a7 a8 nj np lw q H.size) (cwV 1 hts gX0_hasBoth_X0_hasPebble rfl rfl rfl (by decide +kernel) ⟨Nat.le_of_ble_eq_true rfl, Nat.le_of_ble_eq_true rfl⟩) ⟨gPre_blind, va_recv hK hPc (ci := 0) (q0 := 0) rfl rfl, fun U hU hW => gPre_of hU hW hK hPc hDc⟩ rfl rfl hl.1 rfl (lv_room (Nat.le_of_ble_eq_true rfl)) dX0_hasBoth_10 ⟨Nat.le_of_ble_eq_true rfl, Nat.le_of_ble_eq_true rfl⟩) hS (fun q _ h => hFc q h) hFc (fun r_6 u t H locs ht hvm w_7 hB hz1 hk1 hS => ?_)
    obtain ⟨hP1, hK1, hD1⟩ := hB
    rw [ht] at hP1
    have hP1 : va_P G.1 vwCl [zo0 h0 t0 a1 a2 a3 a4 a5 a6 a7 a8 nj np lw] H := hP1
    have hD1 : va_D (va_A [zo0 h0 t0 a1 a2 a3 a4 a5 a6 a7 a8 nj np lw] _) [zo0 h0 t0 a1 a2 a3 a4 a5 a6 a7 a8 nj np lw] := hD1
    have w_7 : r_6 = bz (decide (0 ≤ q ∧ q < np)) := w_7
    obtain ⟨hP, hD⟩ := va_join (wr := []) (w1 := [zo0 h0 t0 a1 a2 a3 a4 a5 a6 a7 a8 nj np lw]) hP hD [0] [] rfl rfl (by decide) (by decide) hk1 hFc hP1 hD1
    have hP : va_P G.1 vwCl [zo0 h0 t0 a1 a2 a3 a4 a5 a6 a7 a8 nj np lw] H := hP
    have hD : va_D A [zo0 h0 t0 a1 a2 a3 a4 a5 a6 a7 a8 nj np lw] := hD
    refine lv_if_eq (tgt := 20) hx hb dX0_hasBoth_13 (by decide) (fun c_8 => ?_) (fun c_8 => ?_)
    · skip
      have n_10 : ¬ (0 ≤ q ∧ q < np) := of_decide_eq_false (bz_eq w_7 c_8)
      refine lv_iconst (v := 0) hx hb dX0_hasBoth_20 (by decide) ?_
      have hP9 := hP.sub (ws' := [zo0 h0 t0 a1 a2 a3 a4 a5 a6 a7 a8 nj np lw]) [0] rfl
      have hD9 := hD.sub (ws' := [zo0 h0 t0 a1 a2 a3 a4 a5 a6 a7 a8 nj np lw]) [0] (by decide) rfl
      have hpost : (fun (r : Int32) (u : Unit) => match u with | _ => r = bz (decide ((0 ≤ j ∧ j < nj) ∧ (0 ≤ q ∧ q < np)))) 0 () := pp_X0_hasBoth_2 nj np lw j q p_4 n_10
      exact W.zret (v := 0) hx hb hr (rfl) (fun t ht hW => ⟨⟨0, (), rfl, hpost, by rw [ht]; exact hP9, va_K.moved hW.alike hK, hD9⟩, hS.F ht⟩) hS.2.2 dX0_hasBoth_21
    · skip
      have p_9 : 0 ≤ q ∧ q < np := of_decide_eq_true (bz_ne w_7 c_8)
      refine lv_iconst (v := 1) hx hb dX0_hasBoth_16 (by decide) ?_
      refine lv_goto (tgt := 21) hx hb dX0_hasBoth_17 (by decide) ?_
      have hP9 := hP.sub (ws' := [zo0 h0 t0 a1 a2 a3 a4 a5 a6 a7 a8 nj np lw]) [0] rfl
      have hD9 := hD.sub (ws' := [zo0 h0 t0 a1 a2 a3 a4 a5 a6 a7 a8 nj np lw]) [0] (by decide) rfl
      have hpost : (fun (r : Int32) (u : Unit) => match u with | _ => r = bz (decide ((0 ≤ j ∧ j < nj) ∧ (0 ≤ q ∧ q < np)))) 1 () := pp_X0_hasBoth_3 nj np lw j q p_4 p_9
      exact W.zret (v := 1) hx hb hr (rfl) (fun t ht hW => ⟨⟨1, (), rfl, hpost, by rw [ht]; exact hP9, va_K.moved hW.alike hK, hD9⟩, hS.F ht⟩) hS.2.2 dX0_hasBoth_21
