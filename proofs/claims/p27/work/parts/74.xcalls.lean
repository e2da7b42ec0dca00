theorem pp_X5_within_g_1 (v0 : Int32) (v1 : Int32) (c_1 : v0 < 0) : (0 : Int32) = bz (decide (0 ≤ v0 ∧ v0 ≤ v1)) := by
  first
    | rfl
    | exact bz_pos (by (first | omega | (simp only [Int32.lt_iff_toInt_lt, Int32.le_iff_toInt_le, ← Int32.toInt_inj, Int32.reduceToInt] at * <;> omega)))
    | exact bz_neg (by (first | omega | (simp only [Int32.lt_iff_toInt_lt, Int32.le_iff_toInt_le, ← Int32.toInt_inj, Int32.reduceToInt] at * <;> omega)))
    | ((repeat' split) <;> first | rfl | assumption | (symm; assumption) | (exfalso; (first | omega | (simp only [Int32.lt_iff_toInt_lt, Int32.le_iff_toInt_le, ← Int32.toInt_inj, Int32.reduceToInt] at * <;> omega))))
theorem pp_X5_within_g_2 (v0 : Int32) (v1 : Int32) (c_1 : ¬ (v0 < 0)) (c_2 : v1 < v0) : (0 : Int32) = bz (decide (0 ≤ v0 ∧ v0 ≤ v1)) := by
  first
    | rfl
    | exact bz_pos (by (first | omega | (simp only [Int32.lt_iff_toInt_lt, Int32.le_iff_toInt_le, ← Int32.toInt_inj, Int32.reduceToInt] at * <;> omega)))
    | exact bz_neg (by (first | omega | (simp only [Int32.lt_iff_toInt_lt, Int32.le_iff_toInt_le, ← Int32.toInt_inj, Int32.reduceToInt] at * <;> omega)))
    | ((repeat' split) <;> first | rfl | assumption | (symm; assumption) | (exfalso; (first | omega | (simp only [Int32.lt_iff_toInt_lt, Int32.le_iff_toInt_le, ← Int32.toInt_inj, Int32.reduceToInt] at * <;> omega))))
theorem pp_X5_within_g_3 (v0 : Int32) (v1 : Int32) (c_1 : ¬ (v0 < 0)) (c_2 : ¬ (v1 < v0)) : (1 : Int32) = bz (decide (0 ≤ v0 ∧ v0 ≤ v1)) := by
  first
    | rfl
    | exact bz_pos (by (first | omega | (simp only [Int32.lt_iff_toInt_lt, Int32.le_iff_toInt_le, ← Int32.toInt_inj, Int32.reduceToInt] at * <;> omega)))
    | exact bz_neg (by (first | omega | (simp only [Int32.lt_iff_toInt_lt, Int32.le_iff_toInt_le, ← Int32.toInt_inj, Int32.reduceToInt] at * <;> omega)))
    | ((repeat' split) <;> first | rfl | assumption | (symm; assumption) | (exfalso; (first | omega | (simp only [Int32.lt_iff_toInt_lt, Int32.le_iff_toInt_le, ← Int32.toInt_inj, Int32.reduceToInt] at * <;> omega))))
abbrev q_X5_within_g (G : gG) (v0 : Int32) (v1 : Int32) (A : Nat → Prop) : Array Value → State → Outcome → State → Prop := va_Qi (fun (r : Int32) (u : Unit) => match u with | _ => r = bz (decide (0 ≤ v0 ∧ v0 ≤ v1))) (fun (u : Unit) t => match u with | _ => va_P G.1 vwCl [] t.heap ∧ gK G t ∧ va_D A []) A
set_option maxHeartbeats 4000000 in
set_option maxRecDepth 100000 in
theorem c_X5_within_g (l : Launch) (G : gG) (v0 : Int32) (v1 : Int32) (sz : Nat) : Met l yX5_within wsX5_within ({ frames := 0, cells := 0, slots := 0, locals := 0 }) (gPre G [.int v0, .int v1] [] sz) (q_X5_within_g G v0 v1 (va_A [] sz)) 0 0 (va_A [] sz) := by
  refine Met.ofW (cc := cX5_within) (maxL := 2) (ret := (some .boolean)) (by decide +kernel) rfl ?_
  intro p e s m args below meth c s₁ B hml hv
  obtain ⟨rfl, hsz, hP, hK, hD0⟩ := hv
  have hx := B.exec
  have hb := B.bytes
  have hr := B.returns
  have hts := atoms_spec (ws := wsX5_within) B.pre
  have hown : s.vm.findClass RX5 = some m.cls := findClass_of_methodNamed B.named
  have hlocks := B.notSynchronized
  subst hsz
  have hD := hD0.self (sz := s.heap.size)
  generalize hAe : va_A [] s.heap.size = A at hD ⊢
  have hA : ∀ q : Nat, s.heap.size ≤ q → A q := fun q h => by rw [← hAe]; exact Or.inr h
  have hS : va_S A s.heap s.heap [] := va_S.rf
  have hz9 : gPD G A [] s.heap := ⟨hP, hD⟩
  have hP := hz9.1
  have hD := hz9.2
  have hl := lv_entry ([.int v0, .int v1]) (n := 2) (Nat.le_of_ble_eq_true rfl)
  rw [lg_entry_eq]
  generalize (lg_sl ([.int v0, .int v1]) ++ List.replicate (2 - (lg_sl ([.int v0, .int v1])).length) Slot.unset).toArray = ls at hl ⊢
  have hl : lv_has ls 2 [zI 0 v0, zI 1 v1] := hl
  refine lv_iload_n hx hb dX5_within_0 rfl (lv_at hl 0 rfl) ?_
  refine lv_if_lt (tgt := 13) hx hb dX5_within_1 (by decide +kernel) (fun c_1 => ?_) (fun c_1 => ?_)
  · skip
    refine lv_iconst (v := 0) hx hb dX5_within_13 (by decide +kernel) ?_
    have hpost : (fun (r : Int32) (u : Unit) => match u with | _ => r = bz (decide (0 ≤ v0 ∧ v0 ≤ v1))) 0 () := pp_X5_within_g_1 v0 v1 c_1
    exact W.zret (v := 0) hx hb hr (rfl) (fun t ht hW => ⟨⟨0, (), rfl, hpost, by rw [ht]; exact hP, va_K.moved hW.alike hK, hD⟩, hS.F ht⟩) hS.2.2 dX5_within_14
  · skip
    refine lv_iload_n hx hb dX5_within_4 rfl (lv_at hl 0 rfl) ?_
    refine lv_iload_n hx hb dX5_within_5 rfl (lv_at hl 1 rfl) ?_
    refine lv_icmp_gt (tgt := 13) hx hb dX5_within_6 (by decide +kernel) (fun c_2 => ?_) (fun c_2 => ?_)
    · skip
      refine lv_iconst (v := 0) hx hb dX5_within_13 (by decide +kernel) ?_
      have hpost : (fun (r : Int32) (u : Unit) => match u with | _ => r = bz (decide (0 ≤ v0 ∧ v0 ≤ v1))) 0 () := pp_X5_within_g_2 v0 v1 c_1 c_2
      exact W.zret (v := 0) hx hb hr (rfl) (fun t ht hW => ⟨⟨0, (), rfl, hpost, by rw [ht]; exact hP, va_K.moved hW.alike hK, hD⟩, hS.F ht⟩) hS.2.2 dX5_within_14
    · skip
      refine lv_iconst (v := 1) hx hb dX5_within_9 (by decide +kernel) ?_
      refine lv_goto (tgt := 14) hx hb dX5_within_10 (by decide +kernel) ?_
      have hpost : (fun (r : Int32) (u : Unit) => match u with | _ => r = bz (decide (0 ≤ v0 ∧ v0 ≤ v1))) 1 () := pp_X5_within_g_3 v0 v1 c_1 c_2
      exact W.zret (v := 1) hx hb hr (rfl) (fun t ht hW => ⟨⟨1, (), rfl, hpost, by rw [ht]; exact hP, va_K.moved hW.alike hK, hD⟩, hS.F ht⟩) hS.2.2 dX5_within_14
abbrev q_X5_isByte_g (G : gG) (v0 : Int32) (A : Nat → Prop) : Array Value → State → Outcome → State → Prop := va_Qi (fun (r : Int32) (u : Unit) => match u with | _ => r = bz (decide (0 ≤ v0 ∧ v0 ≤ 255))) (fun (u : Unit) t => match u with | _ => va_P G.1 vwCl [] t.heap ∧ gK G t ∧ va_D A []) A
set_option maxHeartbeats 4000000 in
set_option maxRecDepth 100000 in
theorem c_X5_isByte_g (l : Launch) (G : gG) (v0 : Int32) (sz : Nat) : Met l yX5_isByte wsX5_isByte ({ frames := 1, cells := 0, slots := 0, locals := 21 }) (gPre G [.int v0] [] sz) (q_X5_isByte_g G v0 (va_A [] sz)) 0 0 (va_A [] sz) := by
  refine Met.ofW (cc := cX5_isByte) (maxL := 1) (ret := (some .boolean)) (by decide +kernel) rfl ?_
  intro p e s m args below meth c s₁ B hml hv
  obtain ⟨rfl, hsz, hP, hK, hD0⟩ := hv
  have hx := B.exec
  have hb := B.bytes
  have hr := B.returns
  have hts := atoms_spec (ws := wsX5_isByte) B.pre
  have hown : s.vm.findClass RX5 = some m.cls := findClass_of_methodNamed B.named
  have hlocks := B.notSynchronized
  subst hsz
  have hD := hD0.self (sz := s.heap.size)
  generalize hAe : va_A [] s.heap.size = A at hD ⊢
  have hA : ∀ q : Nat, s.heap.size ≤ q → A q := fun q h => by rw [← hAe]; exact Or.inr h
  have hS : va_S A s.heap s.heap [] := va_S.rf
  have hz9 : gPD G A [] s.heap := ⟨hP, hD⟩
  have hP := hz9.1
  have hD := hz9.2
  have hl := lv_entry ([.int v0]) (n := 1) (Nat.le_of_ble_eq_true rfl)
  rw [lg_entry_eq]
  generalize (lg_sl ([.int v0]) ++ List.replicate (1 - (lg_sl ([.int v0])).length) Slot.unset).toArray = ls at hl ⊢
  have hl : lv_has ls 1 [zI 0 v0] := hl
  refine lv_iload_n hx hb dX5_isByte_0 rfl (lv_at hl 0 rfl) ?_
  refine lv_sipush (v := 255) hx hb dX5_isByte_1 (by decide +kernel) ?_
  refine z_calli [] (v := bz (decide (0 ≤ v0 ∧ v0 ≤ 255))) (fun _ _ h => h) (va_runS (As := [.int v0, .int 255]) (rest := []) ⟨hx, hb, hml, hown, hts⟩ (c_X5_within_g l G v0 255 s.heap.size) (va_cwS 2 hts gX5_isByte_X5_within rfl rfl rfl (by decide +kernel) ⟨Nat.le_of_ble_eq_true rfl, Nat.le_of_ble_eq_true rfl⟩) ⟨gPre_blind, fun U hU hW => gPre_of hU hW hK hP hD⟩ rfl rfl hl.1 rfl (lv_room (Nat.le_of_ble_eq_true rfl)) dX5_isByte_4 ⟨Nat.le_of_ble_eq_true rfl, Nat.le_of_ble_eq_true rfl⟩) hS hD hA rfl (fun u t H locs ht hvm hB hz1 hk1 hFq hAq hS => ?_)
  obtain ⟨hP1, hK1, hD1⟩ := hB
  have hP := zKeep hP hD [] hAq hk1 ht hP1 rfl
  have hpost : (fun (r : Int32) (u : Unit) => match u with | _ => r = bz (decide (0 ≤ v0 ∧ v0 ≤ 255))) (bz (decide (0 ≤ v0 ∧ v0 ≤ 255))) () := rfl
  exact W.zret (v := (bz (decide (0 ≤ v0 ∧ v0 ≤ 255)))) hx hb hr (bz_nar _) (fun t ht hW => ⟨⟨(bz (decide (0 ≤ v0 ∧ v0 ≤ 255))), (), rfl, hpost, by rw [ht]; exact hP, va_K.moved hW.alike hK, hD⟩, hS.F ht⟩) hS.2.2 dX5_isByte_7
noncomputable def m_X5_isPairOfBits (v0 : Int32) : Int32 := if 0 ≤ v0 ∧ v0 ≤ 11 then (if 1 < (nI ((nC v0) % 10)) then 0 else 1) else 0
abbrev q_X5_isPairOfBits (G : gG) (v0 : Int32) (A : Nat → Prop) : Array Value → State → Outcome → State → Prop := va_Qi (fun (r : Int32) (u : Unit) => match u with | _ => r = m_X5_isPairOfBits v0) (fun (u : Unit) t => match u with | _ => va_P G.1 vwCl [] t.heap ∧ gK G t ∧ va_D A []) A
set_option maxHeartbeats 4000000 in
set_option maxRecDepth 100000 in
theorem c_X5_isPairOfBits (l : Launch) (G : gG) (v0 : Int32) (sz : Nat) : Met l yX5_isPairOfBits wsX5_isPairOfBits ({ frames := 1, cells := 0, slots := 0, locals := 21 }) (gPre G [.int v0] [] sz) (q_X5_isPairOfBits G v0 (va_A [] sz)) 0 0 (va_A [] sz) := by
  refine Met.ofW (cc := cX5_isPairOfBits) (maxL := 1) (ret := (some .boolean)) (by decide +kernel) rfl ?_
  intro p e s m args below meth c s₁ B hml hv
  obtain ⟨rfl, hsz, hP, hK, hD0⟩ := hv
  have hx := B.exec
  have hb := B.bytes
  have hr := B.returns
  have hts := atoms_spec (ws := wsX5_isPairOfBits) B.pre
  have hown : s.vm.findClass RX5 = some m.cls := findClass_of_methodNamed B.named
  have hlocks := B.notSynchronized
  subst hsz
  have hD := hD0.self (sz := s.heap.size)
  generalize hAe : va_A [] s.heap.size = A at hD ⊢
  have hA : ∀ q : Nat, s.heap.size ≤ q → A q := fun q h => by rw [← hAe]; exact Or.inr h
  have hS : va_S A s.heap s.heap [] := va_S.rf
  have hz9 : gPD G A [] s.heap := ⟨hP, hD⟩
  have hP := hz9.1
  have hD := hz9.2
  have hl := lv_entry ([.int v0]) (n := 1) (Nat.le_of_ble_eq_true rfl)
  rw [lg_entry_eq]
  generalize (lg_sl ([.int v0]) ++ List.replicate (1 - (lg_sl ([.int v0])).length) Slot.unset).toArray = ls at hl ⊢
  have hl : lv_has ls 1 [zI 0 v0] := hl
  refine lv_iload_n hx hb dX5_isPairOfBits_0 rfl (lv_at hl 0 rfl) ?_
  refine lv_bipush (v := 11) hx hb dX5_isPairOfBits_1 (by decide +kernel) ?_
  refine z_calli [] (v := bz (decide (0 ≤ v0 ∧ v0 ≤ 11))) (fun _ _ h => h) (va_runS (As := [.int v0, .int 11]) (rest := []) ⟨hx, hb, hml, hown, hts⟩ (c_X5_within_g l G v0 11 s.heap.size) (va_cwS 2 hts gX5_isPairOfBits_X5_within rfl rfl rfl (by decide +kernel) ⟨Nat.le_of_ble_eq_true rfl, Nat.le_of_ble_eq_true rfl⟩) ⟨gPre_blind, fun U hU hW => gPre_of hU hW hK hP hD⟩ rfl rfl hl.1 rfl (lv_room (Nat.le_of_ble_eq_true rfl)) dX5_isPairOfBits_3 ⟨Nat.le_of_ble_eq_true rfl, Nat.le_of_ble_eq_true rfl⟩) hS hD hA rfl (fun u t H locs ht hvm hB hz1 hk1 hFq hAq hS => ?_)
  obtain ⟨hP1, hK1, hD1⟩ := hB
  have hP := zKeep hP hD [] hAq hk1 ht hP1 rfl
  refine lv_if_eq (tgt := 21) hx hb dX5_isPairOfBits_6 (by decide +kernel) (fun c_3 => ?_) (fun c_3 => ?_)
  · skip
    have n_5 : ¬ (0 ≤ v0 ∧ v0 ≤ 11) := of_decide_eq_false (bz_eq rfl c_3)
    refine lv_iconst (v := 0) hx hb dX5_isPairOfBits_21 (by decide +kernel) ?_
    have hpost : (fun (r : Int32) (u : Unit) => match u with | _ => r = m_X5_isPairOfBits v0) 0 () := (show m_X5_isPairOfBits v0 = 0 from by unfold m_X5_isPairOfBits; rw [if_neg n_5]).symm
    exact W.zret (v := 0) hx hb hr (rfl) (fun t ht hW => ⟨⟨0, (), rfl, hpost, by rw [ht]; exact hP, va_K.moved hW.alike hK, hD⟩, hS.F ht⟩) hS.2.2 dX5_isPairOfBits_22
  · skip
    have p_4 : 0 ≤ v0 ∧ v0 ≤ 11 := of_decide_eq_true (bz_ne rfl c_3)
    have hv_6 : v0 = nI (nC v0) := nC_eq p_4.1
    have hk_7 : nC v0 ≤ 11 := nC_le (n := 11) (by omega) p_4
    refine lv_iload_n hx hb dX5_isPairOfBits_9 rfl (lv_at hl 0 rfl) ?_
    refine g_topi (y := nI (nC v0)) hv_6 ?_
    refine lv_bipush (v := 10) hx hb dX5_isPairOfBits_10 (by decide +kernel) ?_
    refine lv_irem hx hb dX5_isPairOfBits_12 (by decide +kernel) ?_
    refine g_topi (y := nI ((nC v0) % 10)) (nI_rem (a := (nC v0)) (d := 10) (by omega) (by omega) (by omega)) ?_
    refine lv_iconst (v := 1) hx hb dX5_isPairOfBits_13 (by decide +kernel) ?_
    refine lv_icmp_gt (tgt := 21) hx hb dX5_isPairOfBits_14 (by decide +kernel) (fun c_10 => ?_) (fun c_10 => ?_)
    · skip
      have c_10N : 1 < ((nC v0) % 10) := nI_lt1 (a := 1) (b := ((nC v0) % 10)) (by omega) (by omega) c_10
      refine lv_iconst (v := 0) hx hb dX5_isPairOfBits_21 (by decide +kernel) ?_
      have hpost : (fun (r : Int32) (u : Unit) => match u with | _ => r = m_X5_isPairOfBits v0) 0 () := (show m_X5_isPairOfBits v0 = 0 from by unfold m_X5_isPairOfBits; rw [if_pos p_4, if_pos c_10]).symm
      exact W.zret (v := 0) hx hb hr (rfl) (fun t ht hW => ⟨⟨0, (), rfl, hpost, by rw [ht]; exact hP, va_K.moved hW.alike hK, hD⟩, hS.F ht⟩) hS.2.2 dX5_isPairOfBits_22
    · skip
      have c_10N : ((nC v0) % 10) ≤ 1 := nI_lt0 (a := 1) (b := ((nC v0) % 10)) (by omega) (by omega) c_10
      refine lv_iconst (v := 1) hx hb dX5_isPairOfBits_17 (by decide +kernel) ?_
      refine lv_goto (tgt := 22) hx hb dX5_isPairOfBits_18 (by decide +kernel) ?_
      have hpost : (fun (r : Int32) (u : Unit) => match u with | _ => r = m_X5_isPairOfBits v0) 1 () := (show m_X5_isPairOfBits v0 = 1 from by unfold m_X5_isPairOfBits; rw [if_pos p_4, if_neg c_10]).symm
      exact W.zret (v := 1) hx hb hr (rfl) (fun t ht hW => ⟨⟨1, (), rfl, hpost, by rw [ht]; exact hP, va_K.moved hW.alike hK, hD⟩, hS.F ht⟩) hS.2.2 dX5_isPairOfBits_22
noncomputable def m_X5_isOfKind (v0 : Int32) (v1 : Int32) : Int32 := if v0 = v1 then 1 else (if v1 = 0 then 1 else (if v0 = 3 then (if v1 = 1 then 1 else (if v0 = 4 then (if v1 = 2 then 1 else 0) else 0)) else (if v0 = 4 then (if v1 = 2 then 1 else 0) else 0)))
abbrev q_X5_isOfKind (G : gG) (v0 : Int32) (v1 : Int32) (A : Nat → Prop) : Array Value → State → Outcome → State → Prop := va_Qi (fun (r : Int32) (u : Unit) => match u with | _ => r = m_X5_isOfKind v0 v1) (fun (u : Unit) t => match u with | _ => va_P G.1 vwCl [] t.heap ∧ gK G t ∧ va_D A []) A
set_option maxHeartbeats 4000000 in
set_option maxRecDepth 100000 in
theorem c_X5_isOfKind (l : Launch) (G : gG) (v0 : Int32) (v1 : Int32) (sz : Nat) : Met l yX5_isOfKind wsX5_isOfKind ({ frames := 0, cells := 0, slots := 0, locals := 0 }) (gPre G [.int v0, .int v1] [] sz) (q_X5_isOfKind G v0 v1 (va_A [] sz)) 0 0 (va_A [] sz) := by
  refine Met.ofW (cc := cX5_isOfKind) (maxL := 2) (ret := (some .boolean)) (by decide +kernel) rfl ?_
  intro p e s m args below meth c s₁ B hml hv
  obtain ⟨rfl, hsz, hP, hK, hD0⟩ := hv
  have hx := B.exec
  have hb := B.bytes
  have hr := B.returns
  have hts := atoms_spec (ws := wsX5_isOfKind) B.pre
  have hown : s.vm.findClass RX5 = some m.cls := findClass_of_methodNamed B.named
  have hlocks := B.notSynchronized
  subst hsz
  have hD := hD0.self (sz := s.heap.size)
  generalize hAe : va_A [] s.heap.size = A at hD ⊢
  have hA : ∀ q : Nat, s.heap.size ≤ q → A q := fun q h => by rw [← hAe]; exact Or.inr h
  have hS : va_S A s.heap s.heap [] := va_S.rf
  have hz9 : gPD G A [] s.heap := ⟨hP, hD⟩
  have hP := hz9.1
  have hD := hz9.2
  have hl := lv_entry ([.int v0, .int v1]) (n := 2) (Nat.le_of_ble_eq_true rfl)
  rw [lg_entry_eq]
  generalize (lg_sl ([.int v0, .int v1]) ++ List.replicate (2 - (lg_sl ([.int v0, .int v1])).length) Slot.unset).toArray = ls at hl ⊢
  have hl : lv_has ls 2 [zI 0 v0, zI 1 v1] := hl
  refine lv_iload_n hx hb dX5_isOfKind_0 rfl (lv_at hl 0 rfl) ?_
  refine lv_iload_n hx hb dX5_isOfKind_1 rfl (lv_at hl 1 rfl) ?_
  refine lv_icmp_eq (tgt := 29) hx hb dX5_isOfKind_2 (by decide +kernel) (fun c_1 => ?_) (fun c_1 => ?_)
  · skip
    refine lv_iconst (v := 1) hx hb dX5_isOfKind_29 (by decide +kernel) ?_
    refine lv_goto (tgt := 34) hx hb dX5_isOfKind_30 (by decide +kernel) ?_
    have hpost : (fun (r : Int32) (u : Unit) => match u with | _ => r = m_X5_isOfKind v0 v1) 1 () := (show m_X5_isOfKind v0 v1 = 1 from by unfold m_X5_isOfKind; rw [if_pos c_1]).symm
    exact W.zret (v := 1) hx hb hr (rfl) (fun t ht hW => ⟨⟨1, (), rfl, hpost, by rw [ht]; exact hP, va_K.moved hW.alike hK, hD⟩, hS.F ht⟩) hS.2.2 dX5_isOfKind_34
  · skip
    refine lv_iload_n hx hb dX5_isOfKind_5 rfl (lv_at hl 1 rfl) ?_
    refine lv_if_eq (tgt := 29) hx hb dX5_isOfKind_6 (by decide +kernel) (fun c_2 => ?_) (fun c_2 => ?_)
    · skip
      refine lv_iconst (v := 1) hx hb dX5_isOfKind_29 (by decide +kernel) ?_
      refine lv_goto (tgt := 34) hx hb dX5_isOfKind_30 (by decide +kernel) ?_
      have hpost : (fun (r : Int32) (u : Unit) => match u with | _ => r = m_X5_isOfKind v0 v1) 1 () := (show m_X5_isOfKind v0 v1 = 1 from by unfold m_X5_isOfKind; rw [if_neg c_1, if_pos c_2]).symm
      exact W.zret (v := 1) hx hb hr (rfl) (fun t ht hW => ⟨⟨1, (), rfl, hpost, by rw [ht]; exact hP, va_K.moved hW.alike hK, hD⟩, hS.F ht⟩) hS.2.2 dX5_isOfKind_34
    · skip
      refine lv_iload_n hx hb dX5_isOfKind_9 rfl (lv_at hl 0 rfl) ?_
      refine lv_iconst (v := 3) hx hb dX5_isOfKind_10 (by decide +kernel) ?_
      refine lv_icmp_ne (tgt := 19) hx hb dX5_isOfKind_11 (by decide +kernel) (fun c_3 => ?_) (fun c_3 => ?_)
      · skip
        refine lv_iload_n hx hb dX5_isOfKind_19 rfl (lv_at hl 0 rfl) ?_
        refine lv_iconst (v := 4) hx hb dX5_isOfKind_20 (by decide +kernel) ?_
        refine lv_icmp_ne (tgt := 33) hx hb dX5_isOfKind_21 (by decide +kernel) (fun c_4 => ?_) (fun c_4 => ?_)
        · skip
          refine lv_iconst (v := 0) hx hb dX5_isOfKind_33 (by decide +kernel) ?_
          have hpost : (fun (r : Int32) (u : Unit) => match u with | _ => r = m_X5_isOfKind v0 v1) 0 () := (show m_X5_isOfKind v0 v1 = 0 from by unfold m_X5_isOfKind; rw [if_neg c_1, if_neg c_2, if_neg c_3, if_neg c_4]).symm
          exact W.zret (v := 0) hx hb hr (rfl) (fun t ht hW => ⟨⟨0, (), rfl, hpost, by rw [ht]; exact hP, va_K.moved hW.alike hK, hD⟩, hS.F ht⟩) hS.2.2 dX5_isOfKind_34
        · skip
          refine lv_iload_n hx hb dX5_isOfKind_24 rfl (lv_at hl 1 rfl) ?_
          refine lv_iconst (v := 2) hx hb dX5_isOfKind_25 (by decide +kernel) ?_
          refine lv_icmp_ne (tgt := 33) hx hb dX5_isOfKind_26 (by decide +kernel) (fun c_5 => ?_) (fun c_5 => ?_)
          · skip
            refine lv_iconst (v := 0) hx hb dX5_isOfKind_33 (by decide +kernel) ?_
            have hpost : (fun (r : Int32) (u : Unit) => match u with | _ => r = m_X5_isOfKind v0 v1) 0 () := (show m_X5_isOfKind v0 v1 = 0 from by unfold m_X5_isOfKind; rw [if_neg c_1, if_neg c_2, if_neg c_3, if_pos c_4, if_neg c_5]).symm
            exact W.zret (v := 0) hx hb hr (rfl) (fun t ht hW => ⟨⟨0, (), rfl, hpost, by rw [ht]; exact hP, va_K.moved hW.alike hK, hD⟩, hS.F ht⟩) hS.2.2 dX5_isOfKind_34
          · skip
            refine lv_iconst (v := 1) hx hb dX5_isOfKind_29 (by decide +kernel) ?_
            refine lv_goto (tgt := 34) hx hb dX5_isOfKind_30 (by decide +kernel) ?_
            have hpost : (fun (r : Int32) (u : Unit) => match u with | _ => r = m_X5_isOfKind v0 v1) 1 () := (show m_X5_isOfKind v0 v1 = 1 from by unfold m_X5_isOfKind; rw [if_neg c_1, if_neg c_2, if_neg c_3, if_pos c_4, if_pos c_5]).symm
            exact W.zret (v := 1) hx hb hr (rfl) (fun t ht hW => ⟨⟨1, (), rfl, hpost, by rw [ht]; exact hP, va_K.moved hW.alike hK, hD⟩, hS.F ht⟩) hS.2.2 dX5_isOfKind_34
      · skip
        refine lv_iload_n hx hb dX5_isOfKind_14 rfl (lv_at hl 1 rfl) ?_
        refine lv_iconst (v := 1) hx hb dX5_isOfKind_15 (by decide +kernel) ?_
        refine lv_icmp_eq (tgt := 29) hx hb dX5_isOfKind_16 (by decide +kernel) (fun c_6 => ?_) (fun c_6 => ?_)
        · skip
          refine lv_iconst (v := 1) hx hb dX5_isOfKind_29 (by decide +kernel) ?_
          refine lv_goto (tgt := 34) hx hb dX5_isOfKind_30 (by decide +kernel) ?_
          have hpost : (fun (r : Int32) (u : Unit) => match u with | _ => r = m_X5_isOfKind v0 v1) 1 () := (show m_X5_isOfKind v0 v1 = 1 from by unfold m_X5_isOfKind; rw [if_neg c_1, if_neg c_2, if_pos c_3, if_pos c_6]).symm
          exact W.zret (v := 1) hx hb hr (rfl) (fun t ht hW => ⟨⟨1, (), rfl, hpost, by rw [ht]; exact hP, va_K.moved hW.alike hK, hD⟩, hS.F ht⟩) hS.2.2 dX5_isOfKind_34
        · skip
          refine lv_iload_n hx hb dX5_isOfKind_19 rfl (lv_at hl 0 rfl) ?_
          refine lv_iconst (v := 4) hx hb dX5_isOfKind_20 (by decide +kernel) ?_
          refine lv_icmp_ne (tgt := 33) hx hb dX5_isOfKind_21 (by decide +kernel) (fun c_7 => ?_) (fun c_7 => ?_)
          · skip
            refine lv_iconst (v := 0) hx hb dX5_isOfKind_33 (by decide +kernel) ?_
            have hpost : (fun (r : Int32) (u : Unit) => match u with | _ => r = m_X5_isOfKind v0 v1) 0 () := (show m_X5_isOfKind v0 v1 = 0 from by unfold m_X5_isOfKind; rw [if_neg c_1, if_neg c_2, if_pos c_3, if_neg c_6, if_neg c_7]).symm
            exact W.zret (v := 0) hx hb hr (rfl) (fun t ht hW => ⟨⟨0, (), rfl, hpost, by rw [ht]; exact hP, va_K.moved hW.alike hK, hD⟩, hS.F ht⟩) hS.2.2 dX5_isOfKind_34
          · skip
            refine lv_iload_n hx hb dX5_isOfKind_24 rfl (lv_at hl 1 rfl) ?_
            refine lv_iconst (v := 2) hx hb dX5_isOfKind_25 (by decide +kernel) ?_
            refine lv_icmp_ne (tgt := 33) hx hb dX5_isOfKind_26 (by decide +kernel) (fun c_8 => ?_) (fun c_8 => ?_)
            · skip
              refine lv_iconst (v := 0) hx hb dX5_isOfKind_33 (by decide +kernel) ?_
              have hpost : (fun (r : Int32) (u : Unit) => match u with | _ => r = m_X5_isOfKind v0 v1) 0 () := (show m_X5_isOfKind v0 v1 = 0 from by unfold m_X5_isOfKind; rw [if_neg c_1, if_neg c_2, if_pos c_3, if_neg c_6, if_pos c_7, if_neg c_8]).symm
              exact W.zret (v := 0) hx hb hr (rfl) (fun t ht hW => ⟨⟨0, (), rfl, hpost, by rw [ht]; exact hP, va_K.moved hW.alike hK, hD⟩, hS.F ht⟩) hS.2.2 dX5_isOfKind_34
            · skip
              refine lv_iconst (v := 1) hx hb dX5_isOfKind_29 (by decide +kernel) ?_
              refine lv_goto (tgt := 34) hx hb dX5_isOfKind_30 (by decide +kernel) ?_
              have hpost : (fun (r : Int32) (u : Unit) => match u with | _ => r = m_X5_isOfKind v0 v1) 1 () := (show m_X5_isOfKind v0 v1 = 1 from by unfold m_X5_isOfKind; rw [if_neg c_1, if_neg c_2, if_pos c_3, if_neg c_6, if_pos c_7, if_pos c_8]).symm
              exact W.zret (v := 1) hx hb hr (rfl) (fun t ht hW => ⟨⟨1, (), rfl, hpost, by rw [ht]; exact hP, va_K.moved hW.alike hK, hD⟩, hS.F ht⟩) hS.2.2 dX5_isOfKind_34
abbrev q_X5_isMoreMiles (G : gG) (v0 : Int32) (A : Nat → Prop) : Array Value → State → Outcome → State → Prop := va_Qi (fun (r : Int32) (u : Unit) => match u with | _ => r = bz (mMil v0)) (fun (u : Unit) t => match u with | _ => va_P G.1 vwCl [] t.heap ∧ gK G t ∧ va_D A []) A
set_option maxHeartbeats 4000000 in
set_option maxRecDepth 100000 in
theorem c_X5_isMoreMiles (l : Launch) (G : gG) (v0 : Int32) (sz : Nat) : Met l yX5_isMoreMiles wsX5_isMoreMiles ({ frames := 1, cells := 0, slots := 0, locals := 21 }) (gPre G [.int v0] [] sz) (q_X5_isMoreMiles G v0 (va_A [] sz)) 0 0 (va_A [] sz) := by
  refine Met.ofW (cc := cX5_isMoreMiles) (maxL := 1) (ret := (some .boolean)) (by decide +kernel) rfl ?_
  intro p e s m args below meth c s₁ B hml hv
  obtain ⟨rfl, hsz, hP, hK, hD0⟩ := hv
  have hx := B.exec
  have hb := B.bytes
  have hr := B.returns
  have hts := atoms_spec (ws := wsX5_isMoreMiles) B.pre
  have hown : s.vm.findClass RX5 = some m.cls := findClass_of_methodNamed B.named
  have hlocks := B.notSynchronized
  subst hsz
  have hD := hD0.self (sz := s.heap.size)
  generalize hAe : va_A [] s.heap.size = A at hD ⊢
  have hA : ∀ q : Nat, s.heap.size ≤ q → A q := fun q h => by rw [← hAe]; exact Or.inr h
  have hS : va_S A s.heap s.heap [] := va_S.rf
  have hz9 : gPD G A [] s.heap := ⟨hP, hD⟩
  have hP := hz9.1
  have hD := hz9.2
  have hl := lv_entry ([.int v0]) (n := 1) (Nat.le_of_ble_eq_true rfl)
  rw [lg_entry_eq]
  generalize (lg_sl ([.int v0]) ++ List.replicate (1 - (lg_sl ([.int v0])).length) Slot.unset).toArray = ls at hl ⊢
  have hl : lv_has ls 1 [zI 0 v0] := hl
  refine lv_iload_n hx hb dX5_isMoreMiles_0 rfl (lv_at hl 0 rfl) ?_
  refine lv_sipush (v := 960) hx hb dX5_isMoreMiles_1 (by decide +kernel) ?_
  refine z_calli [] (v := bz (decide (0 ≤ v0 ∧ v0 ≤ 960))) (fun _ _ h => h) (va_runS (As := [.int v0, .int 960]) (rest := []) ⟨hx, hb, hml, hown, hts⟩ (c_X5_within_g l G v0 960 s.heap.size) (va_cwS 2 hts gX5_isMoreMiles_X5_within rfl rfl rfl (by decide +kernel) ⟨Nat.le_of_ble_eq_true rfl, Nat.le_of_ble_eq_true rfl⟩) ⟨gPre_blind, fun U hU hW => gPre_of hU hW hK hP hD⟩ rfl rfl hl.1 rfl (lv_room (Nat.le_of_ble_eq_true rfl)) dX5_isMoreMiles_4 ⟨Nat.le_of_ble_eq_true rfl, Nat.le_of_ble_eq_true rfl⟩) hS hD hA rfl (fun u t H locs ht hvm hB hz1 hk1 hFq hAq hS => ?_)
  obtain ⟨hP1, hK1, hD1⟩ := hB
  have hP := zKeep hP hD [] hAq hk1 ht hP1 rfl
  refine lv_if_eq (tgt := 23) hx hb dX5_isMoreMiles_7 (by decide +kernel) (fun c_3 => ?_) (fun c_3 => ?_)
  · skip
    have n_5 : ¬ (0 ≤ v0 ∧ v0 ≤ 960) := of_decide_eq_false (bz_eq rfl c_3)
    refine lv_iconst (v := 0) hx hb dX5_isMoreMiles_23 (by decide +kernel) ?_
    have hpost : (fun (r : Int32) (u : Unit) => match u with | _ => r = bz (mMil v0)) 0 () := by show (0 : Int32) = bz (mMil v0); rw [mMil_f (fun z => n_5 z.1)]; rfl
    exact W.zret (v := 0) hx hb hr (rfl) (fun t ht hW => ⟨⟨0, (), rfl, hpost, by rw [ht]; exact hP, va_K.moved hW.alike hK, hD⟩, hS.F ht⟩) hS.2.2 dX5_isMoreMiles_24
  · skip
    have p_4 : 0 ≤ v0 ∧ v0 ≤ 960 := of_decide_eq_true (bz_ne rfl c_3)
    have hv_6 : v0 = nI (nC v0) := nC_eq p_4.1
    have hk_7 : nC v0 ≤ 960 := nC_le (n := 960) (by omega) p_4
    refine lv_iload_n hx hb dX5_isMoreMiles_10 rfl (lv_at hl 0 rfl) ?_
    refine g_topi (y := nI (nC v0)) hv_6 ?_
    refine lv_bipush (v := 100) hx hb dX5_isMoreMiles_11 (by decide +kernel) ?_
    refine lv_irem hx hb dX5_isMoreMiles_13 (by decide +kernel) ?_
    refine g_topi (y := nI ((nC v0) % 100)) (nI_rem (a := (nC v0)) (d := 100) (by omega) (by omega) (by omega)) ?_
    refine lv_bipush (v := 60) hx hb dX5_isMoreMiles_14 (by decide +kernel) ?_
    refine lv_icmp_gt (tgt := 23) hx hb dX5_isMoreMiles_16 (by decide +kernel) (fun c_10 => ?_) (fun c_10 => ?_)
    · skip
      have c_10N : 60 < ((nC v0) % 100) := nI_lt1 (a := 60) (b := ((nC v0) % 100)) (by omega) (by omega) c_10
      refine lv_iconst (v := 0) hx hb dX5_isMoreMiles_23 (by decide +kernel) ?_
      have hpost : (fun (r : Int32) (u : Unit) => match u with | _ => r = bz (mMil v0)) 0 () := by show (0 : Int32) = bz (mMil v0); rw [mMil_f (fun z => absurd z.2 (by omega))]; rfl
      exact W.zret (v := 0) hx hb hr (rfl) (fun t ht hW => ⟨⟨0, (), rfl, hpost, by rw [ht]; exact hP, va_K.moved hW.alike hK, hD⟩, hS.F ht⟩) hS.2.2 dX5_isMoreMiles_24
    · skip
      have c_10N : ((nC v0) % 100) ≤ 60 := nI_lt0 (a := 60) (b := ((nC v0) % 100)) (by omega) (by omega) c_10
      refine lv_iconst (v := 1) hx hb dX5_isMoreMiles_19 (by decide +kernel) ?_
      refine lv_goto (tgt := 24) hx hb dX5_isMoreMiles_20 (by decide +kernel) ?_
      have hpost : (fun (r : Int32) (u : Unit) => match u with | _ => r = bz (mMil v0)) 1 () := by show (1 : Int32) = bz (mMil v0); rw [mMil_t p_4 (by omega)]; rfl
      exact W.zret (v := 1) hx hb hr (rfl) (fun t ht hW => ⟨⟨1, (), rfl, hpost, by rw [ht]; exact hP, va_K.moved hW.alike hK, hD⟩, hS.F ht⟩) hS.2.2 dX5_isMoreMiles_24
noncomputable def p_X5_leastBit_2 (w0 : Int64) : Nat → Nat → Nat
  | 0, n2 => n2
  | q9 + 1, n2 => if (lg_cmp ((w0 >>> ((nI n2).toInt64 &&& 63)) &&& 1) 1) = 0 then n2 else p_X5_leastBit_2 w0 q9 (n2 + 1) 
noncomputable def g_X5_leastBit_2 (w0 : Int64) : Nat := p_X5_leastBit_2 w0 (61 - 0) 0 
noncomputable def m_X5_leastBit (w0 : Int64) : Int32 := if 60 < (nI (g_X5_leastBit_2 w0)) then -1 else nI (g_X5_leastBit_2 w0)
abbrev q_X5_leastBit (G : gG) (w0 : Int64) (A : Nat → Prop) : Array Value → State → Outcome → State → Prop := va_Qi (fun (r : Int32) (u : Unit) => match u with | _ => r = m_X5_leastBit w0) (fun (u : Unit) t => match u with | _ => va_P G.1 vwCl [] t.heap ∧ gK G t ∧ va_D A []) A
set_option maxHeartbeats 4000000 in
set_option maxRecDepth 100000 in
theorem c_X5_leastBit (l : Launch) (G : gG) (w0 : Int64) (sz : Nat) : Met l yX5_leastBit wsX5_leastBit ({ frames := 0, cells := 0, slots := 0, locals := 0 }) (gPre G [.long w0] [] sz) (q_X5_leastBit G w0 (va_A [] sz)) 0 0 (va_A [] sz) := by
  refine Met.ofW (cc := cX5_leastBit) (maxL := 3) (ret := (some .int)) (by decide +kernel) rfl ?_
  intro p e s m args below meth c s₁ B hml hv
  obtain ⟨rfl, hsz, hP, hK, hD0⟩ := hv
  have hx := B.exec
  have hb := B.bytes
  have hr := B.returns
  have hts := atoms_spec (ws := wsX5_leastBit) B.pre
  have hown : s.vm.findClass RX5 = some m.cls := findClass_of_methodNamed B.named
  have hlocks := B.notSynchronized
  subst hsz
  have hD := hD0.self (sz := s.heap.size)
  generalize hAe : va_A [] s.heap.size = A at hD ⊢
  have hA : ∀ q : Nat, s.heap.size ≤ q → A q := fun q h => by rw [← hAe]; exact Or.inr h
  have hS : va_S A s.heap s.heap [] := va_S.rf
  have hz9 : gPD G A [] s.heap := ⟨hP, hD⟩
  have hP := hz9.1
  have hD := hz9.2
  have hl := lv_entry ([.long w0]) (n := 3) (Nat.le_of_ble_eq_true rfl)
  rw [lg_entry_eq]
  generalize (lg_sl ([.long w0]) ++ List.replicate (3 - (lg_sl ([.long w0])).length) Slot.unset).toArray = ls at hl ⊢
  have hl : lv_has ls 3 [zL 0 w0] := hl
  refine lv_iconst (v := 0) hx hb dX5_leastBit_0 (by decide +kernel) ?_
  refine lv_istore_n (lv' := [zI 2 0, zL 0 w0]) hx hb dX5_leastBit_1 rfl hl (by decide +kernel) rfl (fun ls hl => ?_)
  have loop_2 : ∀ (n9 : Nat) (n2 : Nat), (n2 ≤ 61) → (p_X5_leastBit_2 w0 (61 - n2) n2  = (g_X5_leastBit_2 w0)) → (61 - n2) < n9 → ∀ (H : Heap) (locs : List Loc), va_P G.1 vwCl [] H → va_D A [] → va_S A s.heap H locs → ∀ ls : Array Slot, lv_has ls 3 [zI 2 (nI n2), zL 0 w0] → W p l e (headSpec wsX5_leastBit ({ frames := 0, cells := 0, slots := 0, locals := 0 })).room s m ([.long w0] : List Value).toArray below meth c H locs 0 0 (MQ below (q_X5_leastBit G w0 A) ([.long w0] : List Value).toArray s 0 0 A) (F0 m 2 ls []) := by
    intro n9
    induction n9 with
    | zero => intro n2 hn2 R2 hm9_2; exact absurd hm9_2 (Nat.not_lt_zero _)
    | succ n9 ih9_2 =>
      intro n2 hn2 R2 hm9_2 H locs hP hD hS ls hl
      refine lv_iload_n hx hb dX5_leastBit_2 rfl (lv_at hl 0 rfl) ?_
      refine lv_bipush (v := 60) hx hb dX5_leastBit_3 (by decide +kernel) ?_
      refine lv_icmp_gt (tgt := 26) hx hb dX5_leastBit_5 (by decide +kernel) (fun c_1 => ?_) (fun c_1 => ?_)
      · skip
        have c_1N : 60 < n2 := nI_lt1 (a := 60) (b := n2) (by omega) (by omega) c_1
        have hF2 : (g_X5_leastBit_2 w0) = n2 := by rw [← R2, show 61 - n2 = 0 by omega]; rfl
        have hE2_0 : n2 = (g_X5_leastBit_2 w0) := by rw [hF2]
        clear hF2 R2
        subst hE2_0
        refine lv_iconst (v := -1) hx hb dX5_leastBit_26 (by decide +kernel) ?_
        have hpost : (fun (r : Int32) (u : Unit) => match u with | _ => r = m_X5_leastBit w0) (-1) () := (show m_X5_leastBit w0 = (-1) from by unfold m_X5_leastBit; rw [if_pos c_1]).symm
        exact W.iret (v := (-1)) hx hb hr (fun t ht hW => ⟨⟨(-1), (), rfl, hpost, by rw [ht]; exact hP, va_K.moved hW.alike hK, hD⟩, hS.F ht⟩) hS.2.2 dX5_leastBit_27
      · skip
        have c_1N : n2 ≤ 60 := nI_lt0 (a := 60) (b := n2) (by omega) (by omega) c_1
        refine lv_lload_n hx hb dX5_leastBit_8 rfl (lv_at hl 1 rfl) ?_
        refine lv_iload_n hx hb dX5_leastBit_9 rfl (lv_at hl 0 rfl) ?_
        refine lv_lshr (v := w0 >>> ((nI n2).toInt64 &&& 63)) hx hb dX5_leastBit_10 rfl ?_
        refine lv_lconst (v := 1) hx hb dX5_leastBit_11 (by decide +kernel) ?_
        refine lv_land hx hb dX5_leastBit_12 ?_
        refine lv_lconst (v := 1) hx hb dX5_leastBit_13 (by decide +kernel) ?_
        refine W.lcmp hx hb dX5_leastBit_14 ?_
        refine lv_if_ne (tgt := 20) hx hb dX5_leastBit_15 (by decide +kernel) (fun c_2 => ?_) (fun c_2 => ?_)
        · skip
          refine lv_iinc (v := nI (n2 + 1)) (lv' := [zI 2 (nI (n2 + 1)), zL 0 w0]) hx hb dX5_leastBit_20 hl (k := 0) rfl (nI_add n2 1) (by decide +kernel) rfl (fun ls hl => ?_)
          refine lv_goto (tgt := 2) hx hb dX5_leastBit_23 (by decide +kernel) ?_
          exact ih9_2 (n2 + 1) (by omega) (Eq.trans (Eq.symm ((congrArg (fun z9 => p_X5_leastBit_2 w0 (z9) n2 ) (show 61 - n2 = 61 - (n2 + 1) + 1 by omega)).trans (by show p_X5_leastBit_2 w0 (61 - (n2 + 1) + 1) n2  = _; rw [p_X5_leastBit_2, if_neg c_2]))) R2) (by omega) _ _ hP hD hS ls hl
        · skip
          refine lv_iload_n hx hb dX5_leastBit_18 rfl (lv_at hl 0 rfl) ?_
          have hF2 : (g_X5_leastBit_2 w0) = n2 := R2.symm.trans ((congrArg (fun z9 => p_X5_leastBit_2 w0 (z9) n2 ) (show 61 - n2 = 61 - (n2 + 1) + 1 by omega)).trans (by show p_X5_leastBit_2 w0 (61 - (n2 + 1) + 1) n2  = _; rw [p_X5_leastBit_2, if_pos c_2]))
          have hE2_0 : n2 = (g_X5_leastBit_2 w0) := by rw [hF2]
          clear hF2 R2
          subst hE2_0
          have hpost : (fun (r : Int32) (u : Unit) => match u with | _ => r = m_X5_leastBit w0) (nI (g_X5_leastBit_2 w0)) () := (show m_X5_leastBit w0 = (nI (g_X5_leastBit_2 w0)) from by unfold m_X5_leastBit; rw [if_neg c_1]).symm
          exact W.iret (v := (nI (g_X5_leastBit_2 w0))) hx hb hr (fun t ht hW => ⟨⟨(nI (g_X5_leastBit_2 w0)), (), rfl, hpost, by rw [ht]; exact hP, va_K.moved hW.alike hK, hD⟩, hS.F ht⟩) hS.2.2 dX5_leastBit_19
  exact loop_2 (61 - 0 + 1) 0 (by omega) (rfl) (by omega) _ _ hP hD hS ls hl
abbrev q_X5_think (G : gG) (h0 tt rd nw th kp sh tu n1 n2 n3 n4 n5 n6 n7 n8 t1 t2 t3 t4 t5 t6 t7 t8 : Nat) (jg : Nat) (pb : Nat) (lw : Nat) (him : Int32) (tj : Int32) (tb : Int32) (tl : Int32) (fso : Nat → Int32) (fmi : Nat → Int32) (fpa : Nat → Int32) (fki : Nat → Int32) (fmo : Nat → Int32) (fsz : Nat → Int32) (frd : Nat → Int32) (uso : Nat → Int32) (umi : Nat → Int32) (upa : Nat → Int32) (uki : Nat → Int32) (umo : Nat → Int32) (usz : Nat → Int32) (urd : Nat → Int32) (A : Nat → Prop) : Array Value → State → Outcome → State → Prop := va_Qv (fun (u : Unit) => match u with | _ => True) (fun (u : Unit) t => match u with | _ => va_P G.1 vwCl [zo5 h0 tt rd nw th kp sh tu him, zo0 nw tt n1 n2 n3 n4 n5 n6 n7 n8 (nI jg) (nI pb) (nI lw), zi G n2 4 fso, zi G n3 4 fmi, zi G n4 4 fpa, zi G n5 6 fki, zi G n6 6 fmo, zi G n7 6 fsz, zi G n8 6 frd, zo0 th tt t1 t2 t3 t4 t5 t6 t7 t8 (nI jg) (nI pb) (nI lw), zi G t2 4 fso, zi G t3 4 fmi, zi G t4 4 fpa, zi G t5 6 fki, zi G t6 6 fmo, zi G t7 6 fsz, zi G t8 6 frd] t.heap ∧ gK G t ∧ va_D A [zo5 h0 tt rd nw th kp sh tu him, zo0 nw tt n1 n2 n3 n4 n5 n6 n7 n8 (nI jg) (nI pb) (nI lw), zi G n2 4 fso, zi G n3 4 fmi, zi G n4 4 fpa, zi G n5 6 fki, zi G n6 6 fmo, zi G n7 6 fsz, zi G n8 6 frd, zo0 th tt t1 t2 t3 t4 t5 t6 t7 t8 (nI jg) (nI pb) (nI lw), zi G t2 4 fso, zi G t3 4 fmi, zi G t4 4 fpa, zi G t5 6 fki, zi G t6 6 fmo, zi G t7 6 fsz, zi G t8 6 frd]) A
set_option maxHeartbeats 4000000 in
set_option maxRecDepth 100000 in
theorem c_X5_think (l : Launch) (G : gG) (h0 tt rd nw th kp sh tu n1 n2 n3 n4 n5 n6 n7 n8 t1 t2 t3 t4 t5 t6 t7 t8 : Nat) (jg : Nat) (pb : Nat) (lw : Nat) (him : Int32) (tj : Int32) (tb : Int32) (tl : Int32) (fso : Nat → Int32) (fmi : Nat → Int32) (fpa : Nat → Int32) (fki : Nat → Int32) (fmo : Nat → Int32) (fsz : Nat → Int32) (frd : Nat → Int32) (uso : Nat → Int32) (umi : Nat → Int32) (upa : Nat → Int32) (uki : Nat → Int32) (umo : Nat → Int32) (usz : Nat → Int32) (urd : Nat → Int32) (sz : Nat) (hjg : jg ≤ 4) (hpb : pb ≤ 6) : Met l yX5_think wsX5_think ({ frames := 2, cells := 0, slots := 0, locals := 421 }) (gPre G [.ref h0] [zo5 h0 tt rd nw th kp sh tu him, zo0 nw tt n1 n2 n3 n4 n5 n6 n7 n8 (nI jg) (nI pb) (nI lw), zi G n2 4 fso, zi G n3 4 fmi, zi G n4 4 fpa, zi G n5 6 fki, zi G n6 6 fmo, zi G n7 6 fsz, zi G n8 6 frd, zo0 th tt t1 t2 t3 t4 t5 t6 t7 t8 tj tb tl, zi G t2 4 uso, zi G t3 4 umi, zi G t4 4 upa, zi G t5 6 uki, zi G t6 6 umo, zi G t7 6 usz, zi G t8 6 urd] sz) (q_X5_think G h0 tt rd nw th kp sh tu n1 n2 n3 n4 n5 n6 n7 n8 t1 t2 t3 t4 t5 t6 t7 t8 jg pb lw him tj tb tl fso fmi fpa fki fmo fsz frd uso umi upa uki umo usz urd (va_A [zo5 h0 tt rd nw th kp sh tu him, zo0 nw tt n1 n2 n3 n4 n5 n6 n7 n8 (nI jg) (nI pb) (nI lw), zi G n2 4 fso, zi G n3 4 fmi, zi G n4 4 fpa, zi G n5 6 fki, zi G n6 6 fmo, zi G n7 6 fsz, zi G n8 6 frd, zo0 th tt t1 t2 t3 t4 t5 t6 t7 t8 tj tb tl, zi G t2 4 uso, zi G t3 4 umi, zi G t4 4 upa, zi G t5 6 uki, zi G t6 6 umo, zi G t7 6 usz, zi G t8 6 urd] sz)) 0 0 (va_A [zo5 h0 tt rd nw th kp sh tu him, zo0 nw tt n1 n2 n3 n4 n5 n6 n7 n8 (nI jg) (nI pb) (nI lw), zi G n2 4 fso, zi G n3 4 fmi, zi G n4 4 fpa, zi G n5 6 fki, zi G n6 6 fmo, zi G n7 6 fsz, zi G n8 6 frd, zo0 th tt t1 t2 t3 t4 t5 t6 t7 t8 tj tb tl, zi G t2 4 uso, zi G t3 4 umi, zi G t4 4 upa, zi G t5 6 uki, zi G t6 6 umo, zi G t7 6 usz, zi G t8 6 urd] sz) := by
  refine Met.ofW (cc := cX5_think) (maxL := 1) (ret := none) (by decide +kernel) rfl ?_
  intro p e s m args below meth c s₁ B hml hv
  obtain ⟨rfl, hsz, hP, hK, hD0⟩ := hv
  have hx := B.exec
  have hb := B.bytes
  have hr := B.returns
  have hts := atoms_spec (ws := wsX5_think) B.pre
  have hown : s.vm.findClass RX5 = some m.cls := findClass_of_methodNamed B.named
  have hlocks := B.notSynchronized
  subst hsz
  have hD := hD0.self (sz := s.heap.size)
  generalize hAe : va_A [zo5 h0 tt rd nw th kp sh tu him, zo0 nw tt n1 n2 n3 n4 n5 n6 n7 n8 (nI jg) (nI pb) (nI lw), zi G n2 4 fso, zi G n3 4 fmi, zi G n4 4 fpa, zi G n5 6 fki, zi G n6 6 fmo, zi G n7 6 fsz, zi G n8 6 frd, zo0 th tt t1 t2 t3 t4 t5 t6 t7 t8 tj tb tl, zi G t2 4 uso, zi G t3 4 umi, zi G t4 4 upa, zi G t5 6 uki, zi G t6 6 umo, zi G t7 6 usz, zi G t8 6 urd] s.heap.size = A at hD ⊢
  have hA : ∀ q : Nat, s.heap.size ≤ q → A q := fun q h => by rw [← hAe]; exact Or.inr h
  have hS : va_S A s.heap s.heap [] := va_S.rf
  have hz9 : gPD G A [zo5 h0 tt rd nw th kp sh tu him, zo0 nw tt n1 n2 n3 n4 n5 n6 n7 n8 (nI jg) (nI pb) (nI lw), zi G n2 4 fso, zi G n3 4 fmi, zi G n4 4 fpa, zi G n5 6 fki, zi G n6 6 fmo, zi G n7 6 fsz, zi G n8 6 frd, zo0 th tt t1 t2 t3 t4 t5 t6 t7 t8 tj tb tl, zi G t2 4 uso, zi G t3 4 umi, zi G t4 4 upa, zi G t5 6 uki, zi G t6 6 umo, zi G t7 6 usz, zi G t8 6 urd] s.heap := ⟨hP, hD⟩
  have hP := hz9.1
  have hD := hz9.2
  have hl := lv_entry ([.ref h0]) (n := 1) (Nat.le_of_ble_eq_true rfl)
  rw [lg_entry_eq]
  generalize (lg_sl ([.ref h0]) ++ List.replicate (1 - (lg_sl ([.ref h0])).length) Slot.unset).toArray = ls at hl ⊢
  have hl : lv_has ls 1 [zR 0 h0] := hl
  have kf32 := hts (.fieldLink RX5 32 "PebbleInShoe" "thought" "LPebbleInShoe$Court;") (by decide +kernel)
  have hiX5 := (by decide +kernel : ∀ w ∈ wsX50, w ∈ wsX5_think)
  have kf28 := hts (.fieldLink RX5 28 "PebbleInShoe" "now" "LPebbleInShoe$Court;") (by decide +kernel)
  refine g_aget (D := G.1) (ci := 5) (v := .ref th) (C := RX5) (T := TX5) (N := 8) hx hb dX5_think_0 rfl (lv_at hl 0 rfl) hts hiX5 hown hK hP 0 rfl rfl 3 (by decide +kernel) kf32 (fun _ h9 => h9) rfl dX5_think_1 ?_
  refine g_aget (D := G.1) (ci := 5) (v := .ref nw) (C := RX5) (T := TX5) (N := 8) hx hb dX5_think_4 rfl (lv_at hl 0 rfl) hts hiX5 hown hK hP 0 rfl rfl 2 (by decide +kernel) kf28 (fun _ h9 => h9) rfl dX5_think_5 ?_
  refine z_callv [9, 1, 10, 11, 12, 13, 14, 15, 16, 2, 3, 4, 5, 6, 7, 8] (va_runV (As := [.ref nw]) (rest := []) ⟨hx, hb, hml, hown, hts⟩ (c_X0_become l G th tt nw t1 t2 t3 t4 t5 t6 t7 t8 n1 n2 n3 n4 n5 n6 n7 n8 jg pb lw tj tb tl uso umi upa uki umo usz urd fso fmi fpa fki fmo fsz frd s.heap.size) (cwV 1 hts gX5_think_X0_become rfl rfl rfl (by decide +kernel) ⟨Nat.le_of_ble_eq_true rfl, Nat.le_of_ble_eq_true rfl⟩) ⟨gPre_blind, va_recv (q := (RX0, TX0, 12)) hK hP (ci := 0) (q0 := 9) rfl rfl, fun U hU hW => gPre_ofF [9, 1, 10, 11, 12, 13, 14, 15, 16, 2, 3, 4, 5, 6, 7, 8] hU hW hK hP hD (by decide +kernel) rfl⟩ rfl rfl hl.1 rfl (lv_room (Nat.le_of_ble_eq_true rfl)) dX5_think_8 ⟨Nat.le_of_ble_eq_true rfl, Nat.le_of_ble_eq_true rfl⟩) hS hD hA rfl (fun u t H locs ht hvm w_2 hB hz1 hk1 hFq hAq hS => ?_)
  obtain ⟨hP1, hK1, hD1⟩ := hB
  have hz9 : gPD G A [zo5 h0 tt rd nw th kp sh tu him, zo0 nw tt n1 n2 n3 n4 n5 n6 n7 n8 (nI jg) (nI pb) (nI lw), zi G n2 4 fso, zi G n3 4 fmi, zi G n4 4 fpa, zi G n5 6 fki, zi G n6 6 fmo, zi G n7 6 fsz, zi G n8 6 frd, zo0 th tt t1 t2 t3 t4 t5 t6 t7 t8 (nI jg) (nI pb) (nI lw), zi G t2 4 fso, zi G t3 4 fmi, zi G t4 4 fpa, zi G t5 6 fki, zi G t6 6 fmo, zi G t7 6 fsz, zi G t8 6 frd] H := zFill hP hD [9, 1, 10, 11, 12, 13, 14, 15, 16, 2, 3, 4, 5, 6, 7, 8] [0, 2, 10, 11, 12, 13, 14, 15, 16, 1, 3, 4, 5, 6, 7, 8, 9] hAq hk1 hFq ht hP1 hD1 rfl (by decide +kernel)
  have hP := hz9.1
  have hD := hz9.2
  have hpost : (fun (u : Unit) => match u with | _ => True) () := trivial
  exact W.vret hx hb hr (fun t ht hW => ⟨⟨(), rfl, hpost, by rw [ht]; exact hP, va_K.moved hW.alike hK, hD⟩, hS.F ht⟩) hS.2.2 dX5_think_11
noncomputable def m_X5_outcome (fet : Nat → Nat) (uso : Nat → Int32) (umi : Nat → Int32) (umo : Nat → Int32) (usz : Nat → Int32) (urd : Nat → Int32) (fct : Nat → Int32) (jn : Nat) (pn : Nat) (v3 : Int32) (v4 : Int32) : Int32 := if v4 = 0 then v3 else (if v4 = 1 then usz pn else m_X0_verdict jn pn uso umi umo usz urd fct fet v3)
abbrev q_X5_outcome (G : gG) (h0 tt rd nw th kp sh tu t1 t2 t3 t4 t5 t6 t7 t8 co en sk ct et : Nat) (lw : Nat) (tx : Nat) (him : Int32) (wr : Int32) (tj : Int32) (tb : Int32) (fc : Nat → Option Nat) (fe : Nat → Option Nat) (fet : Nat → Nat) (unm : Nat → Int32) (uso : Nat → Int32) (umi : Nat → Int32) (upa : Nat → Int32) (uki : Nat → Int32) (umo : Nat → Int32) (usz : Nat → Int32) (urd : Nat → Int32) (fct : Nat → Int32) (fsk : Nat → Int32) (jn : Nat) (pn : Nat) (v3 : Int32) (v4 : Int32) (A : Nat → Prop) : Array Value → State → Outcome → State → Prop := va_Qi (fun (r : Int32) (u : (Nat → Int32) × (Nat → Int32)) => match u with | (yt1, ysk) => r = m_X5_outcome fet uso umi umo usz urd fct jn pn v3 v4) (fun (u : (Nat → Int32) × (Nat → Int32)) t => match u with | (yt1, ysk) => va_P G.1 vwCl [zo5 h0 tt rd nw th kp sh tu him, zo0 th tt t1 t2 t3 t4 t5 t6 t7 t8 tj tb (nI lw), zi G t1 6 yt1, zi G t2 4 uso, zi G t3 4 umi, zi G t4 4 upa, zi G t5 6 uki, zi G t6 6 umo, zi G t7 6 usz, zi G t8 6 urd, zo3 tt co en sk wr (nI tx), zr G co 6 fc, zr G en 6 fe, zi G ct 160 fct, zi G et 3 (nF fet), zi G sk 32 ysk] t.heap ∧ gK G t ∧ va_D A [zo5 h0 tt rd nw th kp sh tu him, zo0 th tt t1 t2 t3 t4 t5 t6 t7 t8 tj tb (nI lw), zi G t1 6 yt1, zi G t2 4 uso, zi G t3 4 umi, zi G t4 4 upa, zi G t5 6 uki, zi G t6 6 umo, zi G t7 6 usz, zi G t8 6 urd, zo3 tt co en sk wr (nI tx), zr G co 6 fc, zr G en 6 fe, zi G ct 160 fct, zi G et 3 (nF fet), zi G sk 32 ysk]) A
set_option maxHeartbeats 4000000 in
set_option maxRecDepth 100000 in
theorem c_X5_outcome (l : Launch) (G : gG) (h0 tt rd nw th kp sh tu t1 t2 t3 t4 t5 t6 t7 t8 co en sk ct et : Nat) (lw : Nat) (tx : Nat) (him : Int32) (wr : Int32) (tj : Int32) (tb : Int32) (fc : Nat → Option Nat) (fe : Nat → Option Nat) (fet : Nat → Nat) (unm : Nat → Int32) (uso : Nat → Int32) (umi : Nat → Int32) (upa : Nat → Int32) (uki : Nat → Int32) (umo : Nat → Int32) (usz : Nat → Int32) (urd : Nat → Int32) (fct : Nat → Int32) (fsk : Nat → Int32) (jn : Nat) (pn : Nat) (v3 : Int32) (v4 : Int32) (sz : Nat) (hj : jn < 4) (hp : pn < 6) (htn : lw < tx ∧ tx ≤ 6) (hc : fc lw = some ct) (he : fe lw = some et) (hwx : mWx fct fet) : Met l yX5_outcome wsX5_outcome ({ frames := 4, cells := 0, slots := 0, locals := 107 }) (gPre G [.ref h0, .int (nI jn), .int (nI pn), .int v3, .int v4] [zo5 h0 tt rd nw th kp sh tu him, zo0 th tt t1 t2 t3 t4 t5 t6 t7 t8 tj tb (nI lw), zi G t1 6 unm, zi G t2 4 uso, zi G t3 4 umi, zi G t4 4 upa, zi G t5 6 uki, zi G t6 6 umo, zi G t7 6 usz, zi G t8 6 urd, zo3 tt co en sk wr (nI tx), zr G co 6 fc, zr G en 6 fe, zi G ct 160 fct, zi G et 3 (nF fet), zi G sk 32 fsk] sz) (q_X5_outcome G h0 tt rd nw th kp sh tu t1 t2 t3 t4 t5 t6 t7 t8 co en sk ct et lw tx him wr tj tb fc fe fet unm uso umi upa uki umo usz urd fct fsk jn pn v3 v4 (va_A [zo5 h0 tt rd nw th kp sh tu him, zo0 th tt t1 t2 t3 t4 t5 t6 t7 t8 tj tb (nI lw), zi G t1 6 unm, zi G t2 4 uso, zi G t3 4 umi, zi G t4 4 upa, zi G t5 6 uki, zi G t6 6 umo, zi G t7 6 usz, zi G t8 6 urd, zo3 tt co en sk wr (nI tx), zr G co 6 fc, zr G en 6 fe, zi G ct 160 fct, zi G et 3 (nF fet), zi G sk 32 fsk] sz)) 0 0 (va_A [zo5 h0 tt rd nw th kp sh tu him, zo0 th tt t1 t2 t3 t4 t5 t6 t7 t8 tj tb (nI lw), zi G t1 6 unm, zi G t2 4 uso, zi G t3 4 umi, zi G t4 4 upa, zi G t5 6 uki, zi G t6 6 umo, zi G t7 6 usz, zi G t8 6 urd, zo3 tt co en sk wr (nI tx), zr G co 6 fc, zr G en 6 fe, zi G ct 160 fct, zi G et 3 (nF fet), zi G sk 32 fsk] sz) := by
  refine Met.ofW (cc := cX5_outcome) (maxL := 5) (ret := (some .int)) (by decide +kernel) rfl ?_
  intro p e s m args below meth c s₁ B hml hv
  obtain ⟨rfl, hsz, hP, hK, hD0⟩ := hv
  have hx := B.exec
  have hb := B.bytes
  have hr := B.returns
  have hts := atoms_spec (ws := wsX5_outcome) B.pre
  have hown : s.vm.findClass RX5 = some m.cls := findClass_of_methodNamed B.named
  have hlocks := B.notSynchronized
  subst hsz
  have hD := hD0.self (sz := s.heap.size)
  generalize hAe : va_A [zo5 h0 tt rd nw th kp sh tu him, zo0 th tt t1 t2 t3 t4 t5 t6 t7 t8 tj tb (nI lw), zi G t1 6 unm, zi G t2 4 uso, zi G t3 4 umi, zi G t4 4 upa, zi G t5 6 uki, zi G t6 6 umo, zi G t7 6 usz, zi G t8 6 urd, zo3 tt co en sk wr (nI tx), zr G co 6 fc, zr G en 6 fe, zi G ct 160 fct, zi G et 3 (nF fet), zi G sk 32 fsk] s.heap.size = A at hD ⊢
  have hA : ∀ q : Nat, s.heap.size ≤ q → A q := fun q h => by rw [← hAe]; exact Or.inr h
  have hS : va_S A s.heap s.heap [] := va_S.rf
  have hz9 : gPD G A [zo5 h0 tt rd nw th kp sh tu him, zo0 th tt t1 t2 t3 t4 t5 t6 t7 t8 tj tb (nI lw), zi G t1 6 unm, zi G t2 4 uso, zi G t3 4 umi, zi G t4 4 upa, zi G t5 6 uki, zi G t6 6 umo, zi G t7 6 usz, zi G t8 6 urd, zo3 tt co en sk wr (nI tx), zr G co 6 fc, zr G en 6 fe, zi G ct 160 fct, zi G et 3 (nF fet), zi G sk 32 fsk] s.heap := ⟨hP, hD⟩
  have hP := hz9.1
  have hD := hz9.2
  have hl := lv_entry ([.ref h0, .int (nI jn), .int (nI pn), .int v3, .int v4]) (n := 5) (Nat.le_of_ble_eq_true rfl)
  rw [lg_entry_eq]
  generalize (lg_sl ([.ref h0, .int (nI jn), .int (nI pn), .int v3, .int v4]) ++ List.replicate (5 - (lg_sl ([.ref h0, .int (nI jn), .int (nI pn), .int v3, .int v4])).length) Slot.unset).toArray = ls at hl ⊢
  have hl : lv_has ls 5 [zR 0 h0, zI 1 (nI jn), zI 2 (nI pn), zI 3 v3, zI 4 v4] := hl
  have kf32 := hts (.fieldLink RX5 32 "PebbleInShoe" "thought" "LPebbleInShoe$Court;") (by decide +kernel)
  have hiX5 := (by decide +kernel : ∀ w ∈ wsX50, w ∈ wsX5_outcome)
  have kf122 := hts (.fieldLink RX5 122 "PebbleInShoe$Court" "size" "[I") (by decide +kernel)
  have hiX0 := (by decide +kernel : ∀ w ∈ wsX00, w ∈ wsX5_outcome)
  refine lv_iload hx hb dX5_outcome_0 (lv_at hl 4 rfl) ?_
  by_cases s_1 : v4 = 0
  · skip
    refine lv_lookup (off := 26) (tgt := 28) hx hb dX5_outcome_2 (by decide +kernel) (by rw [s_1]; decide) (by decide +kernel) ?_
    refine lv_iload_n hx hb dX5_outcome_28 rfl (lv_at hl 3 rfl) ?_
    have hpost : (fun (r : Int32) (u : (Nat → Int32) × (Nat → Int32)) => match u with | (yt1, ysk) => r = m_X5_outcome fet uso umi umo usz urd fct jn pn v3 v4) v3 (unm, fsk) := (show m_X5_outcome fet uso umi umo usz urd fct jn pn v3 v4 = v3 from by unfold m_X5_outcome; rw [if_pos s_1]).symm
    exact W.iret (v := v3) hx hb hr (fun t ht hW => ⟨⟨v3, (unm, fsk), rfl, hpost, by rw [ht]; exact hP, va_K.moved hW.alike hK, hD⟩, hS.F ht⟩) hS.2.2 dX5_outcome_29
  by_cases s_2 : v4 = 1
  · skip
    refine lv_lookup (off := 28) (tgt := 30) hx hb dX5_outcome_2 (by decide +kernel) (by rw [s_2]; decide) (by decide +kernel) ?_
    refine g_aget (D := G.1) (ci := 5) (v := .ref th) (C := RX5) (T := TX5) (N := 8) hx hb dX5_outcome_30 rfl (lv_at hl 0 rfl) hts hiX5 hown hK hP 0 rfl rfl 3 (by decide +kernel) kf32 (fun _ h9 => h9) rfl dX5_outcome_31 ?_
    refine va_get (D := G.1) (ci := 0) (v := .ref t7) (C := RX0) (T := TX0) (N := 12) hx hb hts hiX0 hown hK hP 1 rfl rfl 7 (by decide +kernel) kf122 (fun _ h9 => h9) rfl dX5_outcome_34 ?_
    refine lv_iload_n hx hb dX5_outcome_37 rfl (lv_at hl 2 rfl) ?_
    refine g_iald (D := G.1) hx hb hK hP 8 0 rfl rfl (k := pn) (y := usz pn) (by omega) rfl rfl dX5_outcome_38 ?_
    have hpost : (fun (r : Int32) (u : (Nat → Int32) × (Nat → Int32)) => match u with | (yt1, ysk) => r = m_X5_outcome fet uso umi umo usz urd fct jn pn v3 v4) (usz pn) (unm, fsk) := (show m_X5_outcome fet uso umi umo usz urd fct jn pn v3 v4 = (usz pn) from by unfold m_X5_outcome; rw [if_neg s_1, if_pos s_2]).symm
    exact W.iret (v := (usz pn)) hx hb hr (fun t ht hW => ⟨⟨(usz pn), (unm, fsk), rfl, hpost, by rw [ht]; exact hP, va_K.moved hW.alike hK, hD⟩, hS.F ht⟩) hS.2.2 dX5_outcome_39
  refine lv_lookup (off := 38) (tgt := 40) hx hb dX5_outcome_2 (by decide +kernel) (by show Op.lookupswitch.offset _ _ _ = _; rw [lv_osw s_1 (by decide +kernel)]; rw [lv_osw s_2 (by decide +kernel)]; rfl) (by decide +kernel) ?_
  refine g_aget (D := G.1) (ci := 5) (v := .ref th) (C := RX5) (T := TX5) (N := 8) hx hb dX5_outcome_40 rfl (lv_at hl 0 rfl) hts hiX5 hown hK hP 0 rfl rfl 3 (by decide +kernel) kf32 (fun _ h9 => h9) rfl dX5_outcome_41 ?_
  refine lv_iload_n hx hb dX5_outcome_44 rfl (lv_at hl 1 rfl) ?_
  refine lv_iload_n hx hb dX5_outcome_45 rfl (lv_at hl 2 rfl) ?_
  refine lv_iload_n hx hb dX5_outcome_46 rfl (lv_at hl 3 rfl) ?_
  refine z_calli [1, 2, 3, 4, 7, 8, 9, 10, 11, 12, 13, 14, 15] (v := m_X0_verdict jn pn uso umi umo usz urd fct fet v3) (fun _ ⟨_, _⟩ h => h) (va_runV (As := [.int (nI jn), .int (nI pn), .int v3]) (rest := []) ⟨hx, hb, hml, hown, hts⟩ (c_X0_verdict l G th tt t1 t2 t3 t4 t5 t6 t7 t8 co en sk ct et lw jn pn tx tj tb wr unm uso umi umo usz urd fc fe fct fet fsk v3 s.heap.size (by first | exact hj | assumption | omega) (by first | exact hp | assumption | omega) (by first | exact htn | assumption | omega) (by first | exact hc | assumption | omega) (by first | exact he | assumption | omega) (by first | exact hwx | assumption | omega)) (cwV 3 hts gX5_outcome_X0_verdict rfl rfl rfl (by decide +kernel) ⟨Nat.le_of_ble_eq_true rfl, Nat.le_of_ble_eq_true rfl⟩) ⟨gPre_blind, va_recv (q := (RX0, TX0, 12)) hK hP (ci := 0) (q0 := 1) rfl rfl, fun U hU hW => gPre_ofF [1, 2, 3, 4, 7, 8, 9, 10, 11, 12, 13, 14, 15] hU hW hK hP hD (by decide +kernel) rfl⟩ rfl rfl hl.1 rfl (lv_room (Nat.le_of_ble_eq_true rfl)) dX5_outcome_47 ⟨Nat.le_of_ble_eq_true rfl, Nat.le_of_ble_eq_true rfl⟩) hS hD hA rfl (fun u t H locs ht hvm hB hz1 hk1 hFq hAq hS => ?_)
  obtain ⟨yn1_6, ysk_7⟩ := u
  obtain ⟨hP1, hK1, hD1⟩ := hB
  have hz9 : gPD G A [zo5 h0 tt rd nw th kp sh tu him, zo0 th tt t1 t2 t3 t4 t5 t6 t7 t8 tj tb (nI lw), zi G t1 6 yn1_6, zi G t2 4 uso, zi G t3 4 umi, zi G t4 4 upa, zi G t5 6 uki, zi G t6 6 umo, zi G t7 6 usz, zi G t8 6 urd, zo3 tt co en sk wr (nI tx), zr G co 6 fc, zr G en 6 fe, zi G ct 160 fct, zi G et 3 (nF fet), zi G sk 32 ysk_7] H := zFill hP hD [1, 2, 3, 4, 7, 8, 9, 10, 11, 12, 13, 14, 15] [0, 1, 2, 3, 4, 0, 0, 5, 6, 7, 8, 9, 10, 11, 12, 13] hAq hk1 hFq ht hP1 hD1 rfl (by decide +kernel)
  have hP := hz9.1
  have hD := hz9.2
  have hpost : (fun (r : Int32) (u : (Nat → Int32) × (Nat → Int32)) => match u with | (yt1, ysk) => r = m_X5_outcome fet uso umi umo usz urd fct jn pn v3 v4) (m_X0_verdict jn pn uso umi umo usz urd fct fet v3) (yn1_6, ysk_7) := (show m_X5_outcome fet uso umi umo usz urd fct jn pn v3 v4 = (m_X0_verdict jn pn uso umi umo usz urd fct fet v3) from by unfold m_X5_outcome; rw [if_neg s_1, if_neg s_2]).symm
  exact W.iret (v := (m_X0_verdict jn pn uso umi umo usz urd fct fet v3)) hx hb hr (fun t ht hW => ⟨⟨(m_X0_verdict jn pn uso umi umo usz urd fct fet v3), (yn1_6, ysk_7), rfl, hpost, by rw [ht]; exact hP, va_K.moved hW.alike hK, hD⟩, hS.F ht⟩) hS.2.2 dX5_outcome_50
noncomputable def p_X5_guiltyBits_12 (fet : Nat → Nat) (fki : Nat → Int32) (fmo : Nat → Int32) (frd : Nat → Int32) (fct : Nat → Int32) (jn : Nat) (pn : Nat) : Nat → Nat → Int64 → Int32 → (Nat → Int32) → (Nat → Int32) → (Nat → Int32) → (Nat → Int32) → Nat × Int64 × Int32 × (Nat → Int32) × (Nat → Int32) × (Nat → Int32) × (Nat → Int32)
  | 0, n12, bi, fl9, y12t2, y12t3, y12t4, y12t7 => (n12, bi, fl9, y12t2, y12t3, y12t4, y12t7)
  | q9 + 1, n12, bi, fl9, y12t2, y12t3, y12t4, y12t7 => p_X5_guiltyBits_12 fet fki fmo frd fct jn pn q9 (n12 + 1) (bi ||| (((m_X0_verdict jn pn y12t2 y12t3 fmo y12t7 frd fct fet fl9).toInt64) <<< ((nI n12).toInt64 &&& 63))) (fl9 + (m_X0_mile jn pn y12t2 y12t3 fki fmo y12t7 frd fct fet)) (m_X0_mile_n2 jn y12t2 y12t3) (upd y12t3 jn ((y12t3 jn) + 1)) (m_X0_mile_n4 jn pn y12t2 y12t3 y12t4 fki fmo y12t7 frd fct fet) (m_X0_mile_n7 jn pn y12t2 y12t3 fki fmo y12t7 frd fct fet 0)
noncomputable def g_X5_guiltyBits_12 (fet : Nat → Nat) (fso : Nat → Int32) (fmi : Nat → Int32) (fpa : Nat → Int32) (fki : Nat → Int32) (fmo : Nat → Int32) (fsz : Nat → Int32) (frd : Nat → Int32) (fct : Nat → Int32) (jn : Nat) (pn : Nat) : Nat × Int64 × Int32 × (Nat → Int32) × (Nat → Int32) × (Nat → Int32) × (Nat → Int32) := p_X5_guiltyBits_12 fet fki fmo frd fct jn pn (61 - 0) 0 0 0 fso fmi fpa fsz
noncomputable def m_X5_guiltyBits (fet : Nat → Nat) (fso : Nat → Int32) (fmi : Nat → Int32) (fpa : Nat → Int32) (fki : Nat → Int32) (fmo : Nat → Int32) (fsz : Nat → Int32) (frd : Nat → Int32) (fct : Nat → Int32) (jn : Nat) (pn : Nat) : Int64 := ((g_X5_guiltyBits_12 fet fso fmi fpa fki fmo fsz frd fct jn pn).2.1)
abbrev q_X5_guiltyBits (G : gG) (h0 tt rd nw th kp sh tu n1 n2 n3 n4 n5 n6 n7 n8 t1 t2 t3 t4 t5 t6 t7 t8 co en sk ct et : Nat) (jg : Nat) (pb : Nat) (lw : Nat) (tx : Nat) (him : Int32) (wr : Int32) (tj : Int32) (tb : Int32) (tl : Int32) (fc : Nat → Option Nat) (fe : Nat → Option Nat) (fet : Nat → Nat) (fso : Nat → Int32) (fmi : Nat → Int32) (fpa : Nat → Int32) (fki : Nat → Int32) (fmo : Nat → Int32) (fsz : Nat → Int32) (frd : Nat → Int32) (unm : Nat → Int32) (uso : Nat → Int32) (umi : Nat → Int32) (upa : Nat → Int32) (uki : Nat → Int32) (umo : Nat → Int32) (usz : Nat → Int32) (urd : Nat → Int32) (fct : Nat → Int32) (fsk : Nat → Int32) (jn : Nat) (pn : Nat) (A : Nat → Prop) : Array Value → State → Outcome → State → Prop := va_Ql (fun (r : Int64) (u : (Nat → Int32) × (Nat → Int32) × (Nat → Int32) × (Nat → Int32) × (Nat → Int32) × (Nat → Int32)) => match u with | (yt1, yt2, yt3, yt4, yt7, ysk) => r = m_X5_guiltyBits fet fso fmi fpa fki fmo fsz frd fct jn pn) (fun (u : (Nat → Int32) × (Nat → Int32) × (Nat → Int32) × (Nat → Int32) × (Nat → Int32) × (Nat → Int32)) t => match u with | (yt1, yt2, yt3, yt4, yt7, ysk) => va_P G.1 vwCl [zo5 h0 tt rd nw th kp sh tu him, zo0 nw tt n1 n2 n3 n4 n5 n6 n7 n8 (nI jg) (nI pb) (nI lw), zi G n2 4 fso, zi G n3 4 fmi, zi G n4 4 fpa, zi G n5 6 fki, zi G n6 6 fmo, zi G n7 6 fsz, zi G n8 6 frd, zo0 th tt t1 t2 t3 t4 t5 t6 t7 t8 (nI jg) (nI pb) (nI lw), zi G t1 6 yt1, zi G t2 4 yt2, zi G t3 4 yt3, zi G t4 4 yt4, zi G t5 6 fki, zi G t6 6 fmo, zi G t7 6 yt7, zi G t8 6 frd, zo3 tt co en sk wr (nI tx), zr G co 6 fc, zr G en 6 fe, zi G ct 160 fct, zi G et 3 (nF fet), zi G sk 32 ysk] t.heap ∧ gK G t ∧ va_D A [zo5 h0 tt rd nw th kp sh tu him, zo0 nw tt n1 n2 n3 n4 n5 n6 n7 n8 (nI jg) (nI pb) (nI lw), zi G n2 4 fso, zi G n3 4 fmi, zi G n4 4 fpa, zi G n5 6 fki, zi G n6 6 fmo, zi G n7 6 fsz, zi G n8 6 frd, zo0 th tt t1 t2 t3 t4 t5 t6 t7 t8 (nI jg) (nI pb) (nI lw), zi G t1 6 yt1, zi G t2 4 yt2, zi G t3 4 yt3, zi G t4 4 yt4, zi G t5 6 fki, zi G t6 6 fmo, zi G t7 6 yt7, zi G t8 6 frd, zo3 tt co en sk wr (nI tx), zr G co 6 fc, zr G en 6 fe, zi G ct 160 fct, zi G et 3 (nF fet), zi G sk 32 ysk]) A
set_option maxHeartbeats 4000000 in
set_option maxRecDepth 100000 in
theorem c_X5_guiltyBits (l : Launch) (G : gG) (h0 tt rd nw th kp sh tu n1 n2 n3 n4 n5 n6 n7 n8 t1 t2 t3 t4 t5 t6 t7 t8 co en sk ct et : Nat) (jg : Nat) (pb : Nat) (lw : Nat) (tx : Nat) (him : Int32) (wr : Int32) (tj : Int32) (tb : Int32) (tl : Int32) (fc : Nat → Option Nat) (fe : Nat → Option Nat) (fet : Nat → Nat) (fso : Nat → Int32) (fmi : Nat → Int32) (fpa : Nat → Int32) (fki : Nat → Int32) (fmo : Nat → Int32) (fsz : Nat → Int32) (frd : Nat → Int32) (unm : Nat → Int32) (uso : Nat → Int32) (umi : Nat → Int32) (upa : Nat → Int32) (uki : Nat → Int32) (umo : Nat → Int32) (usz : Nat → Int32) (urd : Nat → Int32) (fct : Nat → Int32) (fsk : Nat → Int32) (jn : Nat) (pn : Nat) (sz : Nat) (hj : jn < 4) (hp : pn < 6) (htn : lw < tx ∧ tx ≤ 6) (hc : fc lw = some ct) (he : fe lw = some et) (hwx : mWx fct fet) (hjg : jg ≤ 4) (hpb : pb ≤ 6) : Met l yX5_guiltyBits wsX5_guiltyBits ({ frames := 4, cells := 0, slots := 0, locals := 441 }) (gPre G [.ref h0, .int (nI jn), .int (nI pn)] [zo5 h0 tt rd nw th kp sh tu him, zo0 nw tt n1 n2 n3 n4 n5 n6 n7 n8 (nI jg) (nI pb) (nI lw), zi G n2 4 fso, zi G n3 4 fmi, zi G n4 4 fpa, zi G n5 6 fki, zi G n6 6 fmo, zi G n7 6 fsz, zi G n8 6 frd, zo0 th tt t1 t2 t3 t4 t5 t6 t7 t8 tj tb tl, zi G t1 6 unm, zi G t2 4 uso, zi G t3 4 umi, zi G t4 4 upa, zi G t5 6 uki, zi G t6 6 umo, zi G t7 6 usz, zi G t8 6 urd, zo3 tt co en sk wr (nI tx), zr G co 6 fc, zr G en 6 fe, zi G ct 160 fct, zi G et 3 (nF fet), zi G sk 32 fsk] sz) (q_X5_guiltyBits G h0 tt rd nw th kp sh tu n1 n2 n3 n4 n5 n6 n7 n8 t1 t2 t3 t4 t5 t6 t7 t8 co en sk ct et jg pb lw tx him wr tj tb tl fc fe fet fso fmi fpa fki fmo fsz frd unm uso umi upa uki umo usz urd fct fsk jn pn (va_A [zo5 h0 tt rd nw th kp sh tu him, zo0 nw tt n1 n2 n3 n4 n5 n6 n7 n8 (nI jg) (nI pb) (nI lw), zi G n2 4 fso, zi G n3 4 fmi, zi G n4 4 fpa, zi G n5 6 fki, zi G n6 6 fmo, zi G n7 6 fsz, zi G n8 6 frd, zo0 th tt t1 t2 t3 t4 t5 t6 t7 t8 tj tb tl, zi G t1 6 unm, zi G t2 4 uso, zi G t3 4 umi, zi G t4 4 upa, zi G t5 6 uki, zi G t6 6 umo, zi G t7 6 usz, zi G t8 6 urd, zo3 tt co en sk wr (nI tx), zr G co 6 fc, zr G en 6 fe, zi G ct 160 fct, zi G et 3 (nF fet), zi G sk 32 fsk] sz)) 0 0 (va_A [zo5 h0 tt rd nw th kp sh tu him, zo0 nw tt n1 n2 n3 n4 n5 n6 n7 n8 (nI jg) (nI pb) (nI lw), zi G n2 4 fso, zi G n3 4 fmi, zi G n4 4 fpa, zi G n5 6 fki, zi G n6 6 fmo, zi G n7 6 fsz, zi G n8 6 frd, zo0 th tt t1 t2 t3 t4 t5 t6 t7 t8 tj tb tl, zi G t1 6 unm, zi G t2 4 uso, zi G t3 4 umi, zi G t4 4 upa, zi G t5 6 uki, zi G t6 6 umo, zi G t7 6 usz, zi G t8 6 urd, zo3 tt co en sk wr (nI tx), zr G co 6 fc, zr G en 6 fe, zi G ct 160 fct, zi G et 3 (nF fet), zi G sk 32 fsk] sz) := by
  refine Met.ofW (cc := cX5_guiltyBits) (maxL := 7) (ret := (some .long)) (by decide +kernel) rfl ?_
  intro p e s m args below meth c s₁ B hml hv
  obtain ⟨rfl, hsz, hP, hK, hD0⟩ := hv
  have hx := B.exec
  have hb := B.bytes
  have hr := B.returns
  have hts := atoms_spec (ws := wsX5_guiltyBits) B.pre
  have hown : s.vm.findClass RX5 = some m.cls := findClass_of_methodNamed B.named
  have hlocks := B.notSynchronized
  subst hsz
  have hD := hD0.self (sz := s.heap.size)
  generalize hAe : va_A [zo5 h0 tt rd nw th kp sh tu him, zo0 nw tt n1 n2 n3 n4 n5 n6 n7 n8 (nI jg) (nI pb) (nI lw), zi G n2 4 fso, zi G n3 4 fmi, zi G n4 4 fpa, zi G n5 6 fki, zi G n6 6 fmo, zi G n7 6 fsz, zi G n8 6 frd, zo0 th tt t1 t2 t3 t4 t5 t6 t7 t8 tj tb tl, zi G t1 6 unm, zi G t2 4 uso, zi G t3 4 umi, zi G t4 4 upa, zi G t5 6 uki, zi G t6 6 umo, zi G t7 6 usz, zi G t8 6 urd, zo3 tt co en sk wr (nI tx), zr G co 6 fc, zr G en 6 fe, zi G ct 160 fct, zi G et 3 (nF fet), zi G sk 32 fsk] s.heap.size = A at hD ⊢
  have hA : ∀ q : Nat, s.heap.size ≤ q → A q := fun q h => by rw [← hAe]; exact Or.inr h
  have hS : va_S A s.heap s.heap [] := va_S.rf
  have hz9 : gPD G A [zo5 h0 tt rd nw th kp sh tu him, zo0 nw tt n1 n2 n3 n4 n5 n6 n7 n8 (nI jg) (nI pb) (nI lw), zi G n2 4 fso, zi G n3 4 fmi, zi G n4 4 fpa, zi G n5 6 fki, zi G n6 6 fmo, zi G n7 6 fsz, zi G n8 6 frd, zo0 th tt t1 t2 t3 t4 t5 t6 t7 t8 tj tb tl, zi G t1 6 unm, zi G t2 4 uso, zi G t3 4 umi, zi G t4 4 upa, zi G t5 6 uki, zi G t6 6 umo, zi G t7 6 usz, zi G t8 6 urd, zo3 tt co en sk wr (nI tx), zr G co 6 fc, zr G en 6 fe, zi G ct 160 fct, zi G et 3 (nF fet), zi G sk 32 fsk] s.heap := ⟨hP, hD⟩
  have hP := hz9.1
  have hD := hz9.2
  have hl := lv_entry ([.ref h0, .int (nI jn), .int (nI pn)]) (n := 7) (Nat.le_of_ble_eq_true rfl)
  rw [lg_entry_eq]
  generalize (lg_sl ([.ref h0, .int (nI jn), .int (nI pn)]) ++ List.replicate (7 - (lg_sl ([.ref h0, .int (nI jn), .int (nI pn)])).length) Slot.unset).toArray = ls at hl ⊢
  have hl : lv_has ls 7 [zR 0 h0, zI 1 (nI jn), zI 2 (nI pn)] := hl
  have kf32 := hts (.fieldLink RX5 32 "PebbleInShoe" "thought" "LPebbleInShoe$Court;") (by decide +kernel)
  have hiX5 := (by decide +kernel : ∀ w ∈ wsX50, w ∈ wsX5_guiltyBits)
  refine lv_aload_n hx hb dX5_guiltyBits_0 rfl (lv_at hl 0 rfl) ?_
  refine z_callv [0, 1, 2, 3, 4, 5, 6, 7, 8, 9, 11, 12, 13, 14, 15, 16, 17] (va_runV (As := []) (rest := []) ⟨hx, hb, hml, hown, hts⟩ (c_X5_think l G h0 tt rd nw th kp sh tu n1 n2 n3 n4 n5 n6 n7 n8 t1 t2 t3 t4 t5 t6 t7 t8 jg pb lw him tj tb tl fso fmi fpa fki fmo fsz frd uso umi upa uki umo usz urd s.heap.size (by first | exact hjg | assumption | omega) (by first | exact hpb | assumption | omega)) (cwV 0 hts gX5_guiltyBits_X5_think rfl rfl rfl (by decide +kernel) ⟨Nat.le_of_ble_eq_true rfl, Nat.le_of_ble_eq_true rfl⟩) ⟨gPre_blind, va_recv (q := (RX5, TX5, 8)) hK hP (ci := 5) (q0 := 0) rfl rfl, fun U hU hW => gPre_ofF [0, 1, 2, 3, 4, 5, 6, 7, 8, 9, 11, 12, 13, 14, 15, 16, 17] hU hW hK hP hD (by decide +kernel) rfl⟩ rfl rfl hl.1 rfl (lv_room (Nat.le_of_ble_eq_true rfl)) dX5_guiltyBits_1 ⟨Nat.le_of_ble_eq_true rfl, Nat.le_of_ble_eq_true rfl⟩) hS hD hA rfl (fun u t H locs ht hvm w_2 hB hz1 hk1 hFq hAq hS => ?_)
  obtain ⟨hP1, hK1, hD1⟩ := hB
  have hz9 : gPD G A [zo5 h0 tt rd nw th kp sh tu him, zo0 nw tt n1 n2 n3 n4 n5 n6 n7 n8 (nI jg) (nI pb) (nI lw), zi G n2 4 fso, zi G n3 4 fmi, zi G n4 4 fpa, zi G n5 6 fki, zi G n6 6 fmo, zi G n7 6 fsz, zi G n8 6 frd, zo0 th tt t1 t2 t3 t4 t5 t6 t7 t8 (nI jg) (nI pb) (nI lw), zi G t1 6 unm, zi G t2 4 fso, zi G t3 4 fmi, zi G t4 4 fpa, zi G t5 6 fki, zi G t6 6 fmo, zi G t7 6 fsz, zi G t8 6 frd, zo3 tt co en sk wr (nI tx), zr G co 6 fc, zr G en 6 fe, zi G ct 160 fct, zi G et 3 (nF fet), zi G sk 32 fsk] H := zFill hP hD [0, 1, 2, 3, 4, 5, 6, 7, 8, 9, 11, 12, 13, 14, 15, 16, 17] [1, 2, 3, 4, 5, 6, 7, 8, 9, 10, 0, 11, 12, 13, 14, 15, 16, 17] hAq hk1 hFq ht hP1 hD1 rfl (by decide +kernel)
  have hP := hz9.1
  have hD := hz9.2
  refine lv_lconst (v := 0) hx hb dX5_guiltyBits_4 (by decide +kernel) ?_
  refine lv_lstore_n (lv' := [zL 3 0, zR 0 h0, zI 1 (nI jn), zI 2 (nI pn)]) hx hb dX5_guiltyBits_5 rfl hl (by decide +kernel) rfl (fun ls hl => ?_)
  refine lv_iconst (v := 0) hx hb dX5_guiltyBits_6 (by decide +kernel) ?_
  refine lv_istore (lv' := [zI 5 0, zL 3 0, zR 0 h0, zI 1 (nI jn), zI 2 (nI pn)]) hx hb dX5_guiltyBits_7 hl (by decide +kernel) rfl (fun ls hl => ?_)
  refine lv_iconst (v := 0) hx hb dX5_guiltyBits_9 (by decide +kernel) ?_
  refine lv_istore (lv' := [zI 6 0, zI 5 0, zL 3 0, zR 0 h0, zI 1 (nI jn), zI 2 (nI pn)]) hx hb dX5_guiltyBits_10 hl (by decide +kernel) rfl (fun ls hl => ?_)
  have loop_12 : ∀ (n9 : Nat) (n12 : Nat) (bi : Int64) (fl9 : Int32) (y12t2 : Nat → Int32) (y12t3 : Nat → Int32) (y12t4 : Nat → Int32) (y12t7 : Nat → Int32) (x12t1 : Nat → Int32) (x12sk : Nat → Int32), (n12 ≤ 61) → (p_X5_guiltyBits_12 fet fki fmo frd fct jn pn (61 - n12) n12 bi fl9 y12t2 y12t3 y12t4 y12t7 = (g_X5_guiltyBits_12 fet fso fmi fpa fki fmo fsz frd fct jn pn)) → (61 - n12) < n9 → ∀ (H : Heap) (locs : List Loc), va_P G.1 vwCl [zo5 h0 tt rd nw th kp sh tu him, zo0 nw tt n1 n2 n3 n4 n5 n6 n7 n8 (nI jg) (nI pb) (nI lw), zi G n2 4 fso, zi G n3 4 fmi, zi G n4 4 fpa, zi G n5 6 fki, zi G n6 6 fmo, zi G n7 6 fsz, zi G n8 6 frd, zo0 th tt t1 t2 t3 t4 t5 t6 t7 t8 (nI jg) (nI pb) (nI lw), zi G t1 6 x12t1, zi G t2 4 y12t2, zi G t3 4 y12t3, zi G t4 4 y12t4, zi G t5 6 fki, zi G t6 6 fmo, zi G t7 6 y12t7, zi G t8 6 frd, zo3 tt co en sk wr (nI tx), zr G co 6 fc, zr G en 6 fe, zi G ct 160 fct, zi G et 3 (nF fet), zi G sk 32 x12sk] H → va_D A [zo5 h0 tt rd nw th kp sh tu him, zo0 nw tt n1 n2 n3 n4 n5 n6 n7 n8 (nI jg) (nI pb) (nI lw), zi G n2 4 fso, zi G n3 4 fmi, zi G n4 4 fpa, zi G n5 6 fki, zi G n6 6 fmo, zi G n7 6 fsz, zi G n8 6 frd, zo0 th tt t1 t2 t3 t4 t5 t6 t7 t8 (nI jg) (nI pb) (nI lw), zi G t1 6 x12t1, zi G t2 4 y12t2, zi G t3 4 y12t3, zi G t4 4 y12t4, zi G t5 6 fki, zi G t6 6 fmo, zi G t7 6 y12t7, zi G t8 6 frd, zo3 tt co en sk wr (nI tx), zr G co 6 fc, zr G en 6 fe, zi G ct 160 fct, zi G et 3 (nF fet), zi G sk 32 x12sk] → va_S A s.heap H locs → ∀ ls : Array Slot, lv_has ls 7 [zI 6 (nI n12), zI 5 fl9, zL 3 bi, zR 0 h0, zI 1 (nI jn), zI 2 (nI pn)] → W p l e (headSpec wsX5_guiltyBits ({ frames := 4, cells := 0, slots := 0, locals := 441 })).room s m ([.ref h0, .int (nI jn), .int (nI pn)] : List Value).toArray below meth c H locs 0 0 (MQ below (q_X5_guiltyBits G h0 tt rd nw th kp sh tu n1 n2 n3 n4 n5 n6 n7 n8 t1 t2 t3 t4 t5 t6 t7 t8 co en sk ct et jg pb lw tx him wr tj tb tl fc fe fet fso fmi fpa fki fmo fsz frd unm uso umi upa uki umo usz urd fct fsk jn pn A) ([.ref h0, .int (nI jn), .int (nI pn)] : List Value).toArray s 0 0 A) (F0 m 12 ls []) := by
    intro n9
    induction n9 with
    | zero => intro n12 bi fl9 y12t2 y12t3 y12t4 y12t7 x12t1 x12sk hn12 R12 hm9_12; exact absurd hm9_12 (Nat.not_lt_zero _)
    | succ n9 ih9_12 =>
      intro n12 bi fl9 y12t2 y12t3 y12t4 y12t7 x12t1 x12sk hn12 R12 hm9_12 H locs hP hD hS ls hl
      refine lv_iload hx hb dX5_guiltyBits_12 (lv_at hl 0 rfl) ?_
      refine lv_bipush (v := 60) hx hb dX5_guiltyBits_14 (by decide +kernel) ?_
      refine lv_icmp_gt (tgt := 58) hx hb dX5_guiltyBits_16 (by decide +kernel) (fun c_3 => ?_) (fun c_3 => ?_)
      · skip
        have c_3N : 60 < n12 := nI_lt1 (a := 60) (b := n12) (by omega) (by omega) c_3
        have hF12 : (g_X5_guiltyBits_12 fet fso fmi fpa fki fmo fsz frd fct jn pn) = (n12, bi, fl9, y12t2, y12t3, y12t4, y12t7) := by rw [← R12, show 61 - n12 = 0 by omega]; rfl
        have hE12_0 : n12 = ((g_X5_guiltyBits_12 fet fso fmi fpa fki fmo fsz frd fct jn pn).1) := by rw [hF12]
        have hE12_1 : bi = ((g_X5_guiltyBits_12 fet fso fmi fpa fki fmo fsz frd fct jn pn).2.1) := by rw [hF12]
        have hE12_2 : fl9 = ((g_X5_guiltyBits_12 fet fso fmi fpa fki fmo fsz frd fct jn pn).2.2.1) := by rw [hF12]
        have hE12_3 : y12t2 = ((g_X5_guiltyBits_12 fet fso fmi fpa fki fmo fsz frd fct jn pn).2.2.2.1) := by rw [hF12]
        have hE12_4 : y12t3 = ((g_X5_guiltyBits_12 fet fso fmi fpa fki fmo fsz frd fct jn pn).2.2.2.2.1) := by rw [hF12]
        have hE12_5 : y12t4 = ((g_X5_guiltyBits_12 fet fso fmi fpa fki fmo fsz frd fct jn pn).2.2.2.2.2.1) := by rw [hF12]
        have hE12_6 : y12t7 = ((g_X5_guiltyBits_12 fet fso fmi fpa fki fmo fsz frd fct jn pn).2.2.2.2.2.2) := by rw [hF12]
        clear hF12 R12
        subst hE12_0
        subst hE12_1
        subst hE12_2
        subst hE12_3
        subst hE12_4
        subst hE12_5
        subst hE12_6
        refine lv_lload_n hx hb dX5_guiltyBits_58 rfl (lv_at hl 2 rfl) ?_
        have hpost : (fun (r : Int64) (u : (Nat → Int32) × (Nat → Int32) × (Nat → Int32) × (Nat → Int32) × (Nat → Int32) × (Nat → Int32)) => match u with | (yt1, yt2, yt3, yt4, yt7, ysk) => r = m_X5_guiltyBits fet fso fmi fpa fki fmo fsz frd fct jn pn) ((g_X5_guiltyBits_12 fet fso fmi fpa fki fmo fsz frd fct jn pn).2.1) (x12t1, ((g_X5_guiltyBits_12 fet fso fmi fpa fki fmo fsz frd fct jn pn).2.2.2.1), ((g_X5_guiltyBits_12 fet fso fmi fpa fki fmo fsz frd fct jn pn).2.2.2.2.1), ((g_X5_guiltyBits_12 fet fso fmi fpa fki fmo fsz frd fct jn pn).2.2.2.2.2.1), ((g_X5_guiltyBits_12 fet fso fmi fpa fki fmo fsz frd fct jn pn).2.2.2.2.2.2), x12sk) := (show m_X5_guiltyBits fet fso fmi fpa fki fmo fsz frd fct jn pn = ((g_X5_guiltyBits_12 fet fso fmi fpa fki fmo fsz frd fct jn pn).2.1) from rfl).symm
        exact W.lret (v := ((g_X5_guiltyBits_12 fet fso fmi fpa fki fmo fsz frd fct jn pn).2.1)) hx hb hr (fun t ht hW => ⟨⟨((g_X5_guiltyBits_12 fet fso fmi fpa fki fmo fsz frd fct jn pn).2.1), (x12t1, ((g_X5_guiltyBits_12 fet fso fmi fpa fki fmo fsz frd fct jn pn).2.2.2.1), ((g_X5_guiltyBits_12 fet fso fmi fpa fki fmo fsz frd fct jn pn).2.2.2.2.1), ((g_X5_guiltyBits_12 fet fso fmi fpa fki fmo fsz frd fct jn pn).2.2.2.2.2.1), ((g_X5_guiltyBits_12 fet fso fmi fpa fki fmo fsz frd fct jn pn).2.2.2.2.2.2), x12sk), rfl, hpost, by rw [ht]; exact hP, va_K.moved hW.alike hK, hD⟩, hS.F ht⟩) hS.2.2 dX5_guiltyBits_59
      · skip
        have c_3N : n12 ≤ 60 := nI_lt0 (a := 60) (b := n12) (by omega) (by omega) c_3
        refine lv_lload_n hx hb dX5_guiltyBits_19 rfl (lv_at hl 2 rfl) ?_
        refine g_aget (D := G.1) (ci := 5) (v := .ref th) (C := RX5) (T := TX5) (N := 8) hx hb dX5_guiltyBits_20 rfl (lv_at hl 3 rfl) hts hiX5 hown hK hP 0 rfl rfl 3 (by decide +kernel) kf32 (fun _ h9 => h9) rfl dX5_guiltyBits_21 ?_
        refine lv_iload_n hx hb dX5_guiltyBits_24 rfl (lv_at hl 4 rfl) ?_
        refine lv_iload_n hx hb dX5_guiltyBits_25 rfl (lv_at hl 5 rfl) ?_
        refine lv_iload hx hb dX5_guiltyBits_26 (lv_at hl 1 rfl) ?_
        refine z_calli [9, 10, 11, 12, 15, 16, 17, 18, 19, 20, 21, 22, 23] (v := m_X0_verdict jn pn y12t2 y12t3 fmo y12t7 frd fct fet fl9) (fun _ ⟨_, _⟩ h => h) (va_runV (As := [.int (nI jn), .int (nI pn), .int fl9]) (rest := [.long bi]) ⟨hx, hb, hml, hown, hts⟩ (c_X0_verdict l G th tt t1 t2 t3 t4 t5 t6 t7 t8 co en sk ct et lw jn pn tx (nI jg) (nI pb) wr x12t1 y12t2 y12t3 fmo y12t7 frd fc fe fct fet x12sk fl9 H.size (by first | exact hj | assumption | omega) (by first | exact hp | assumption | omega) (by first | exact htn | assumption | omega) (by first | exact hc | assumption | omega) (by first | exact he | assumption | omega) (by first | exact hwx | assumption | omega)) (cwV 3 hts gX5_guiltyBits_X0_verdict rfl rfl rfl (by decide +kernel) ⟨Nat.le_of_ble_eq_true rfl, Nat.le_of_ble_eq_true rfl⟩) ⟨gPre_blind, va_recv (q := (RX0, TX0, 12)) hK hP (ci := 0) (q0 := 9) rfl rfl, fun U hU hW => gPre_ofF [9, 10, 11, 12, 15, 16, 17, 18, 19, 20, 21, 22, 23] hU hW hK hP hD (by decide +kernel) rfl⟩ rfl rfl hl.1 rfl (lv_room (Nat.le_of_ble_eq_true rfl)) dX5_guiltyBits_28 ⟨Nat.le_of_ble_eq_true rfl, Nat.le_of_ble_eq_true rfl⟩) hS hD hA rfl (fun u t H locs ht hvm hB hz1 hk1 hFq hAq hS => ?_)
        obtain ⟨yn1_6, ysk_7⟩ := u
        obtain ⟨hP1, hK1, hD1⟩ := hB
        have hz9 : gPD G A [zo5 h0 tt rd nw th kp sh tu him, zo0 nw tt n1 n2 n3 n4 n5 n6 n7 n8 (nI jg) (nI pb) (nI lw), zi G n2 4 fso, zi G n3 4 fmi, zi G n4 4 fpa, zi G n5 6 fki, zi G n6 6 fmo, zi G n7 6 fsz, zi G n8 6 frd, zo0 th tt t1 t2 t3 t4 t5 t6 t7 t8 (nI jg) (nI pb) (nI lw), zi G t1 6 yn1_6, zi G t2 4 y12t2, zi G t3 4 y12t3, zi G t4 4 y12t4, zi G t5 6 fki, zi G t6 6 fmo, zi G t7 6 y12t7, zi G t8 6 frd, zo3 tt co en sk wr (nI tx), zr G co 6 fc, zr G en 6 fe, zi G ct 160 fct, zi G et 3 (nF fet), zi G sk 32 ysk_7] H := zFill hP hD [9, 10, 11, 12, 15, 16, 17, 18, 19, 20, 21, 22, 23] [0, 0, 0, 0, 0, 0, 0, 0, 0, 1, 2, 3, 4, 0, 0, 5, 6, 7, 8, 9, 10, 11, 12, 13] hAq hk1 hFq ht hP1 hD1 rfl (by decide +kernel)
        have hP := hz9.1
        have hD := hz9.2
        refine lv_i2l (v := (m_X0_verdict jn pn y12t2 y12t3 fmo y12t7 frd fct fet fl9).toInt64) hx hb dX5_guiltyBits_31 rfl ?_
        refine lv_iload hx hb dX5_guiltyBits_32 (lv_at hl 0 rfl) ?_
        refine lv_lshl (v := ((m_X0_verdict jn pn y12t2 y12t3 fmo y12t7 frd fct fet fl9).toInt64) <<< ((nI n12).toInt64 &&& 63)) hx hb dX5_guiltyBits_34 rfl ?_
        refine lv_lor hx hb dX5_guiltyBits_35 ?_
        refine lv_lstore_n (lv' := [zL 3 (bi ||| (((m_X0_verdict jn pn y12t2 y12t3 fmo y12t7 frd fct fet fl9).toInt64) <<< ((nI n12).toInt64 &&& 63))), zI 6 (nI n12), zI 5 fl9, zR 0 h0, zI 1 (nI jn), zI 2 (nI pn)]) hx hb dX5_guiltyBits_36 rfl hl (by decide +kernel) rfl (fun ls hl => ?_)
        refine lv_iload hx hb dX5_guiltyBits_37 (lv_at hl 2 rfl) ?_
        refine g_aget (D := G.1) (ci := 5) (v := .ref th) (C := RX5) (T := TX5) (N := 8) hx hb dX5_guiltyBits_39 rfl (lv_at hl 3 rfl) hts hiX5 hown hK hP 0 rfl rfl 3 (by decide +kernel) kf32 (fun _ h9 => h9) rfl dX5_guiltyBits_40 ?_
        refine lv_iload_n hx hb dX5_guiltyBits_43 rfl (lv_at hl 4 rfl) ?_
        refine lv_iload_n hx hb dX5_guiltyBits_44 rfl (lv_at hl 5 rfl) ?_
        refine lv_iconst (v := 0) hx hb dX5_guiltyBits_45 (by decide +kernel) ?_
        refine z_calli [9, 10, 11, 12, 13, 14, 15, 16, 17, 18, 19, 20, 21, 22, 23] (v := m_X0_mile jn pn y12t2 y12t3 fki fmo y12t7 frd fct fet) (fun _ ⟨_, _⟩ h => h) (va_runV (As := [.int (nI jn), .int (nI pn), .int 0]) (rest := [.int fl9]) ⟨hx, hb, hml, hown, hts⟩ (c_X0_mile l G th tt t1 t2 t3 t4 t5 t6 t7 t8 co en sk ct et lw jn pn tx (nI jg) (nI pb) wr yn1_6 y12t2 y12t3 y12t4 fki fmo y12t7 frd fc fe fct fet ysk_7 0 H.size (by first | exact hj | assumption | omega) (by first | exact hp | assumption | omega) (by first | exact htn | assumption | omega) (by first | exact hc | assumption | omega) (by first | exact he | assumption | omega) (by first | exact hwx | assumption | omega)) (cwV 3 hts gX5_guiltyBits_X0_mile rfl rfl rfl (by decide +kernel) ⟨Nat.le_of_ble_eq_true rfl, Nat.le_of_ble_eq_true rfl⟩) ⟨gPre_blind, va_recv (q := (RX0, TX0, 12)) hK hP (ci := 0) (q0 := 9) rfl rfl, fun U hU hW => gPre_ofF [9, 10, 11, 12, 13, 14, 15, 16, 17, 18, 19, 20, 21, 22, 23] hU hW hK hP hD (by decide +kernel) rfl⟩ rfl rfl hl.1 rfl (lv_room (Nat.le_of_ble_eq_true rfl)) dX5_guiltyBits_46 ⟨Nat.le_of_ble_eq_true rfl, Nat.le_of_ble_eq_true rfl⟩) hS hD hA rfl (fun u t H locs ht hvm hB hz1 hk1 hFq hAq hS => ?_)
        obtain ⟨yn1_10, ysk_11⟩ := u
        obtain ⟨hP1, hK1, hD1⟩ := hB
        have hz9 : gPD G A [zo5 h0 tt rd nw th kp sh tu him, zo0 nw tt n1 n2 n3 n4 n5 n6 n7 n8 (nI jg) (nI pb) (nI lw), zi G n2 4 fso, zi G n3 4 fmi, zi G n4 4 fpa, zi G n5 6 fki, zi G n6 6 fmo, zi G n7 6 fsz, zi G n8 6 frd, zo0 th tt t1 t2 t3 t4 t5 t6 t7 t8 (nI jg) (nI pb) (nI lw), zi G t1 6 yn1_10, zi G t2 4 (m_X0_mile_n2 jn y12t2 y12t3), zi G t3 4 (upd y12t3 jn ((y12t3 jn) + 1)), zi G t4 4 (m_X0_mile_n4 jn pn y12t2 y12t3 y12t4 fki fmo y12t7 frd fct fet), zi G t5 6 fki, zi G t6 6 fmo, zi G t7 6 (m_X0_mile_n7 jn pn y12t2 y12t3 fki fmo y12t7 frd fct fet 0), zi G t8 6 frd, zo3 tt co en sk wr (nI tx), zr G co 6 fc, zr G en 6 fe, zi G ct 160 fct, zi G et 3 (nF fet), zi G sk 32 ysk_11] H := zFill hP hD [9, 10, 11, 12, 13, 14, 15, 16, 17, 18, 19, 20, 21, 22, 23] [0, 0, 0, 0, 0, 0, 0, 0, 0, 1, 2, 3, 4, 5, 6, 7, 8, 9, 10, 11, 12, 13, 14, 15] hAq hk1 hFq ht hP1 hD1 rfl (by decide +kernel)
        have hP := hz9.1
        have hD := hz9.2
        refine lv_iadd hx hb dX5_guiltyBits_49 ?_
        refine lv_istore (lv' := [zI 5 (fl9 + (m_X0_mile jn pn y12t2 y12t3 fki fmo y12t7 frd fct fet)), zL 3 (bi ||| (((m_X0_verdict jn pn y12t2 y12t3 fmo y12t7 frd fct fet fl9).toInt64) <<< ((nI n12).toInt64 &&& 63))), zI 6 (nI n12), zR 0 h0, zI 1 (nI jn), zI 2 (nI pn)]) hx hb dX5_guiltyBits_50 hl (by decide +kernel) rfl (fun ls hl => ?_)
        refine lv_iinc (v := nI (n12 + 1)) (lv' := [zI 6 (nI (n12 + 1)), zI 5 (fl9 + (m_X0_mile jn pn y12t2 y12t3 fki fmo y12t7 frd fct fet)), zL 3 (bi ||| (((m_X0_verdict jn pn y12t2 y12t3 fmo y12t7 frd fct fet fl9).toInt64) <<< ((nI n12).toInt64 &&& 63))), zR 0 h0, zI 1 (nI jn), zI 2 (nI pn)]) hx hb dX5_guiltyBits_52 hl (k := 2) rfl (nI_add n12 1) (by decide +kernel) rfl (fun ls hl => ?_)
        refine lv_goto (tgt := 12) hx hb dX5_guiltyBits_55 (by decide +kernel) ?_
        exact ih9_12 (n12 + 1) (bi ||| (((m_X0_verdict jn pn y12t2 y12t3 fmo y12t7 frd fct fet fl9).toInt64) <<< ((nI n12).toInt64 &&& 63))) (fl9 + (m_X0_mile jn pn y12t2 y12t3 fki fmo y12t7 frd fct fet)) (m_X0_mile_n2 jn y12t2 y12t3) (upd y12t3 jn ((y12t3 jn) + 1)) (m_X0_mile_n4 jn pn y12t2 y12t3 y12t4 fki fmo y12t7 frd fct fet) (m_X0_mile_n7 jn pn y12t2 y12t3 fki fmo y12t7 frd fct fet 0) yn1_10 ysk_11 (by omega) (Eq.trans (Eq.symm ((congrArg (fun z9 => p_X5_guiltyBits_12 fet fki fmo frd fct jn pn (z9) n12 bi fl9 y12t2 y12t3 y12t4 y12t7) (show 61 - n12 = 61 - (n12 + 1) + 1 by omega)).trans (by show p_X5_guiltyBits_12 fet fki fmo frd fct jn pn (61 - (n12 + 1) + 1) n12 bi fl9 y12t2 y12t3 y12t4 y12t7 = _; rw [p_X5_guiltyBits_12]))) R12) (by omega) _ _ hP hD hS ls hl
  exact loop_12 (61 - 0 + 1) 0 0 0 fso fmi fpa fsz unm fsk (by omega) (rfl) (by omega) _ _ hP hD hS ls hl
noncomputable def p_X5_guiltyOfAll_5 (fet : Nat → Nat) (fso : Nat → Int32) (fmi : Nat → Int32) (fpa : Nat → Int32) (fki : Nat → Int32) (fmo : Nat → Int32) (fsz : Nat → Int32) (frd : Nat → Int32) (fct : Nat → Int32) (jn : Nat) (nn : Nat) : Nat → Nat → Int32 → Nat × Int32
  | 0, p5, gu => (p5, gu)
  | q9 + 1, p5, gu => p_X5_guiltyOfAll_5 fet fso fmi fpa fki fmo fsz frd fct jn nn q9 (p5 + 1) (gu + (m_X0_verdict jn p5 (m_X0_go_n2 jn p5 nn fso fmi fpa fki fmo fsz frd fct fet) (m_X0_go_n3 jn p5 nn fso fmi fpa fki fmo fsz frd fct fet) fmo (m_X0_go_n7 jn p5 nn fso fmi fpa fki fmo fsz frd fct fet) frd fct fet (m_X0_go jn p5 nn fso fmi fpa fki fmo fsz frd fct fet)))
noncomputable def g_X5_guiltyOfAll_5 (pb : Nat) (fet : Nat → Nat) (fso : Nat → Int32) (fmi : Nat → Int32) (fpa : Nat → Int32) (fki : Nat → Int32) (fmo : Nat → Int32) (fsz : Nat → Int32) (frd : Nat → Int32) (fct : Nat → Int32) (jn : Nat) (nn : Nat) : Nat × Int32 := p_X5_guiltyOfAll_5 fet fso fmi fpa fki fmo fsz frd fct jn nn (pb - 0) 0 0
noncomputable def m_X5_guiltyOfAll (pb : Nat) (fet : Nat → Nat) (fso : Nat → Int32) (fmi : Nat → Int32) (fpa : Nat → Int32) (fki : Nat → Int32) (fmo : Nat → Int32) (fsz : Nat → Int32) (frd : Nat → Int32) (fct : Nat → Int32) (jn : Nat) (nn : Nat) : Int32 := ((g_X5_guiltyOfAll_5 pb fet fso fmi fpa fki fmo fsz frd fct jn nn).2)
abbrev q_X5_guiltyOfAll (G : gG) (h0 tt rd nw th kp sh tu n1 n2 n3 n4 n5 n6 n7 n8 t1 t2 t3 t4 t5 t6 t7 t8 co en sk ct et : Nat) (jg : Nat) (pb : Nat) (lw : Nat) (tx : Nat) (him : Int32) (wr : Int32) (tj : Int32) (tb : Int32) (tl : Int32) (fc : Nat → Option Nat) (fe : Nat → Option Nat) (fet : Nat → Nat) (fso : Nat → Int32) (fmi : Nat → Int32) (fpa : Nat → Int32) (fki : Nat → Int32) (fmo : Nat → Int32) (fsz : Nat → Int32) (frd : Nat → Int32) (unm : Nat → Int32) (uso : Nat → Int32) (umi : Nat → Int32) (upa : Nat → Int32) (uki : Nat → Int32) (umo : Nat → Int32) (usz : Nat → Int32) (urd : Nat → Int32) (fct : Nat → Int32) (fsk : Nat → Int32) (jn : Nat) (nn : Nat) (A : Nat → Prop) : Array Value → State → Outcome → State → Prop := va_Qi (fun (r : Int32) (u : Int32 × Int32 × Int32 × (Nat → Int32) × (Nat → Int32) × (Nat → Int32) × (Nat → Int32) × (Nat → Int32) × (Nat → Int32) × (Nat → Int32) × (Nat → Int32) × (Nat → Int32)) => match u with | (zj9, zb9, zl9, yt1, yt2, yt3, yt4, yt5, yt6, yt7, yt8, ysk) => r = m_X5_guiltyOfAll pb fet fso fmi fpa fki fmo fsz frd fct jn nn) (fun (u : Int32 × Int32 × Int32 × (Nat → Int32) × (Nat → Int32) × (Nat → Int32) × (Nat → Int32) × (Nat → Int32) × (Nat → Int32) × (Nat → Int32) × (Nat → Int32) × (Nat → Int32)) t => match u with | (zj9, zb9, zl9, yt1, yt2, yt3, yt4, yt5, yt6, yt7, yt8, ysk) => va_P G.1 vwCl [zo5 h0 tt rd nw th kp sh tu him, zo0 nw tt n1 n2 n3 n4 n5 n6 n7 n8 (nI jg) (nI pb) (nI lw), zi G n2 4 fso, zi G n3 4 fmi, zi G n4 4 fpa, zi G n5 6 fki, zi G n6 6 fmo, zi G n7 6 fsz, zi G n8 6 frd, zo0 th tt t1 t2 t3 t4 t5 t6 t7 t8 zj9 zb9 zl9, zi G t1 6 yt1, zi G t2 4 yt2, zi G t3 4 yt3, zi G t4 4 yt4, zi G t5 6 yt5, zi G t6 6 yt6, zi G t7 6 yt7, zi G t8 6 yt8, zo3 tt co en sk wr (nI tx), zr G co 6 fc, zr G en 6 fe, zi G ct 160 fct, zi G et 3 (nF fet), zi G sk 32 ysk] t.heap ∧ gK G t ∧ va_D A [zo5 h0 tt rd nw th kp sh tu him, zo0 nw tt n1 n2 n3 n4 n5 n6 n7 n8 (nI jg) (nI pb) (nI lw), zi G n2 4 fso, zi G n3 4 fmi, zi G n4 4 fpa, zi G n5 6 fki, zi G n6 6 fmo, zi G n7 6 fsz, zi G n8 6 frd, zo0 th tt t1 t2 t3 t4 t5 t6 t7 t8 zj9 zb9 zl9, zi G t1 6 yt1, zi G t2 4 yt2, zi G t3 4 yt3, zi G t4 4 yt4, zi G t5 6 yt5, zi G t6 6 yt6, zi G t7 6 yt7, zi G t8 6 yt8, zo3 tt co en sk wr (nI tx), zr G co 6 fc, zr G en 6 fe, zi G ct 160 fct, zi G et 3 (nF fet), zi G sk 32 ysk]) A
set_option maxHeartbeats 4000000 in
set_option maxRecDepth 100000 in
theorem c_X5_guiltyOfAll (l : Launch) (G : gG) (h0 tt rd nw th kp sh tu n1 n2 n3 n4 n5 n6 n7 n8 t1 t2 t3 t4 t5 t6 t7 t8 co en sk ct et : Nat) (jg : Nat) (pb : Nat) (lw : Nat) (tx : Nat) (him : Int32) (wr : Int32) (tj : Int32) (tb : Int32) (tl : Int32) (fc : Nat → Option Nat) (fe : Nat → Option Nat) (fet : Nat → Nat) (fso : Nat → Int32) (fmi : Nat → Int32) (fpa : Nat → Int32) (fki : Nat → Int32) (fmo : Nat → Int32) (fsz : Nat → Int32) (frd : Nat → Int32) (unm : Nat → Int32) (uso : Nat → Int32) (umi : Nat → Int32) (upa : Nat → Int32) (uki : Nat → Int32) (umo : Nat → Int32) (usz : Nat → Int32) (urd : Nat → Int32) (fct : Nat → Int32) (fsk : Nat → Int32) (jn : Nat) (nn : Nat) (sz : Nat) (hj : jn < 4) (hnn : nn ≤ 60) (htn : lw < tx ∧ tx ≤ 6) (hc : fc lw = some ct) (he : fe lw = some et) (hwx : mWx fct fet) (hjg : jg ≤ 4) (hpb : pb ≤ 6) : Met l yX5_guiltyOfAll wsX5_guiltyOfAll ({ frames := 5, cells := 0, slots := 0, locals := 441 }) (gPre G [.ref h0, .int (nI jn), .int (nI nn)] [zo5 h0 tt rd nw th kp sh tu him, zo0 nw tt n1 n2 n3 n4 n5 n6 n7 n8 (nI jg) (nI pb) (nI lw), zi G n2 4 fso, zi G n3 4 fmi, zi G n4 4 fpa, zi G n5 6 fki, zi G n6 6 fmo, zi G n7 6 fsz, zi G n8 6 frd, zo0 th tt t1 t2 t3 t4 t5 t6 t7 t8 tj tb tl, zi G t1 6 unm, zi G t2 4 uso, zi G t3 4 umi, zi G t4 4 upa, zi G t5 6 uki, zi G t6 6 umo, zi G t7 6 usz, zi G t8 6 urd, zo3 tt co en sk wr (nI tx), zr G co 6 fc, zr G en 6 fe, zi G ct 160 fct, zi G et 3 (nF fet), zi G sk 32 fsk] sz) (q_X5_guiltyOfAll G h0 tt rd nw th kp sh tu n1 n2 n3 n4 n5 n6 n7 n8 t1 t2 t3 t4 t5 t6 t7 t8 co en sk ct et jg pb lw tx him wr tj tb tl fc fe fet fso fmi fpa fki fmo fsz frd unm uso umi upa uki umo usz urd fct fsk jn nn (va_A [zo5 h0 tt rd nw th kp sh tu him, zo0 nw tt n1 n2 n3 n4 n5 n6 n7 n8 (nI jg) (nI pb) (nI lw), zi G n2 4 fso, zi G n3 4 fmi, zi G n4 4 fpa, zi G n5 6 fki, zi G n6 6 fmo, zi G n7 6 fsz, zi G n8 6 frd, zo0 th tt t1 t2 t3 t4 t5 t6 t7 t8 tj tb tl, zi G t1 6 unm, zi G t2 4 uso, zi G t3 4 umi, zi G t4 4 upa, zi G t5 6 uki, zi G t6 6 umo, zi G t7 6 usz, zi G t8 6 urd, zo3 tt co en sk wr (nI tx), zr G co 6 fc, zr G en 6 fe, zi G ct 160 fct, zi G et 3 (nF fet), zi G sk 32 fsk] sz)) 0 0 (va_A [zo5 h0 tt rd nw th kp sh tu him, zo0 nw tt n1 n2 n3 n4 n5 n6 n7 n8 (nI jg) (nI pb) (nI lw), zi G n2 4 fso, zi G n3 4 fmi, zi G n4 4 fpa, zi G n5 6 fki, zi G n6 6 fmo, zi G n7 6 fsz, zi G n8 6 frd, zo0 th tt t1 t2 t3 t4 t5 t6 t7 t8 tj tb tl, zi G t1 6 unm, zi G t2 4 uso, zi G t3 4 umi, zi G t4 4 upa, zi G t5 6 uki, zi G t6 6 umo, zi G t7 6 usz, zi G t8 6 urd, zo3 tt co en sk wr (nI tx), zr G co 6 fc, zr G en 6 fe, zi G ct 160 fct, zi G et 3 (nF fet), zi G sk 32 fsk] sz) := by
  refine Met.ofW (cc := cX5_guiltyOfAll) (maxL := 5) (ret := (some .int)) (by decide +kernel) rfl ?_
  intro p e s m args below meth c s₁ B hml hv
  obtain ⟨rfl, hsz, hP, hK, hD0⟩ := hv
  have hx := B.exec
  have hb := B.bytes
  have hr := B.returns
  have hts := atoms_spec (ws := wsX5_guiltyOfAll) B.pre
  have hown : s.vm.findClass RX5 = some m.cls := findClass_of_methodNamed B.named
  have hlocks := B.notSynchronized
  subst hsz
  have hD := hD0.self (sz := s.heap.size)
  generalize hAe : va_A [zo5 h0 tt rd nw th kp sh tu him, zo0 nw tt n1 n2 n3 n4 n5 n6 n7 n8 (nI jg) (nI pb) (nI lw), zi G n2 4 fso, zi G n3 4 fmi, zi G n4 4 fpa, zi G n5 6 fki, zi G n6 6 fmo, zi G n7 6 fsz, zi G n8 6 frd, zo0 th tt t1 t2 t3 t4 t5 t6 t7 t8 tj tb tl, zi G t1 6 unm, zi G t2 4 uso, zi G t3 4 umi, zi G t4 4 upa, zi G t5 6 uki, zi G t6 6 umo, zi G t7 6 usz, zi G t8 6 urd, zo3 tt co en sk wr (nI tx), zr G co 6 fc, zr G en 6 fe, zi G ct 160 fct, zi G et 3 (nF fet), zi G sk 32 fsk] s.heap.size = A at hD ⊢
  have hA : ∀ q : Nat, s.heap.size ≤ q → A q := fun q h => by rw [← hAe]; exact Or.inr h
  have hS : va_S A s.heap s.heap [] := va_S.rf
  have hz9 : gPD G A [zo5 h0 tt rd nw th kp sh tu him, zo0 nw tt n1 n2 n3 n4 n5 n6 n7 n8 (nI jg) (nI pb) (nI lw), zi G n2 4 fso, zi G n3 4 fmi, zi G n4 4 fpa, zi G n5 6 fki, zi G n6 6 fmo, zi G n7 6 fsz, zi G n8 6 frd, zo0 th tt t1 t2 t3 t4 t5 t6 t7 t8 tj tb tl, zi G t1 6 unm, zi G t2 4 uso, zi G t3 4 umi, zi G t4 4 upa, zi G t5 6 uki, zi G t6 6 umo, zi G t7 6 usz, zi G t8 6 urd, zo3 tt co en sk wr (nI tx), zr G co 6 fc, zr G en 6 fe, zi G ct 160 fct, zi G et 3 (nF fet), zi G sk 32 fsk] s.heap := ⟨hP, hD⟩
  have hP := hz9.1
  have hD := hz9.2
  have hl := lv_entry ([.ref h0, .int (nI jn), .int (nI nn)]) (n := 5) (Nat.le_of_ble_eq_true rfl)
  rw [lg_entry_eq]
  generalize (lg_sl ([.ref h0, .int (nI jn), .int (nI nn)]) ++ List.replicate (5 - (lg_sl ([.ref h0, .int (nI jn), .int (nI nn)])).length) Slot.unset).toArray = ls at hl ⊢
  have hl : lv_has ls 5 [zR 0 h0, zI 1 (nI jn), zI 2 (nI nn)] := hl
  have kf28 := hts (.fieldLink RX5 28 "PebbleInShoe" "now" "LPebbleInShoe$Court;") (by decide +kernel)
  have hiX5 := (by decide +kernel : ∀ w ∈ wsX50, w ∈ wsX5_guiltyOfAll)
  have kf71 := hts (.fieldLink RX5 71 "PebbleInShoe$Court" "pebbles" "I") (by decide +kernel)
  have hiX0 := (by decide +kernel : ∀ w ∈ wsX00, w ∈ wsX5_guiltyOfAll)
  have kf32 := hts (.fieldLink RX5 32 "PebbleInShoe" "thought" "LPebbleInShoe$Court;") (by decide +kernel)
  refine lv_iconst (v := 0) hx hb dX5_guiltyOfAll_0 (by decide +kernel) ?_
  refine lv_istore_n (lv' := [zI 3 0, zR 0 h0, zI 1 (nI jn), zI 2 (nI nn)]) hx hb dX5_guiltyOfAll_1 rfl hl (by decide +kernel) rfl (fun ls hl => ?_)
  refine lv_iconst (v := 0) hx hb dX5_guiltyOfAll_2 (by decide +kernel) ?_
  refine lv_istore (lv' := [zI 4 0, zI 3 0, zR 0 h0, zI 1 (nI jn), zI 2 (nI nn)]) hx hb dX5_guiltyOfAll_3 hl (by decide +kernel) rfl (fun ls hl => ?_)
  have loop_5 : ∀ (n9 : Nat) (p5 : Nat) (gu : Int32) (x5t1 : Nat → Int32) (x5sk : Nat → Int32) (x5t2 : Nat → Int32) (x5t3 : Nat → Int32) (x5t4 : Nat → Int32) (x5t5 : Nat → Int32) (x5t6 : Nat → Int32) (x5t7 : Nat → Int32) (x5t8 : Nat → Int32) (zj9l : Int32) (zb9l : Int32) (zl9l : Int32), (p5 ≤ pb) → (p_X5_guiltyOfAll_5 fet fso fmi fpa fki fmo fsz frd fct jn nn (pb - p5) p5 gu = (g_X5_guiltyOfAll_5 pb fet fso fmi fpa fki fmo fsz frd fct jn nn)) → (pb - p5) < n9 → ∀ (H : Heap) (locs : List Loc), va_P G.1 vwCl [zo5 h0 tt rd nw th kp sh tu him, zo0 nw tt n1 n2 n3 n4 n5 n6 n7 n8 (nI jg) (nI pb) (nI lw), zi G n2 4 fso, zi G n3 4 fmi, zi G n4 4 fpa, zi G n5 6 fki, zi G n6 6 fmo, zi G n7 6 fsz, zi G n8 6 frd, zo0 th tt t1 t2 t3 t4 t5 t6 t7 t8 zj9l zb9l zl9l, zi G t1 6 x5t1, zi G t2 4 x5t2, zi G t3 4 x5t3, zi G t4 4 x5t4, zi G t5 6 x5t5, zi G t6 6 x5t6, zi G t7 6 x5t7, zi G t8 6 x5t8, zo3 tt co en sk wr (nI tx), zr G co 6 fc, zr G en 6 fe, zi G ct 160 fct, zi G et 3 (nF fet), zi G sk 32 x5sk] H → va_D A [zo5 h0 tt rd nw th kp sh tu him, zo0 nw tt n1 n2 n3 n4 n5 n6 n7 n8 (nI jg) (nI pb) (nI lw), zi G n2 4 fso, zi G n3 4 fmi, zi G n4 4 fpa, zi G n5 6 fki, zi G n6 6 fmo, zi G n7 6 fsz, zi G n8 6 frd, zo0 th tt t1 t2 t3 t4 t5 t6 t7 t8 zj9l zb9l zl9l, zi G t1 6 x5t1, zi G t2 4 x5t2, zi G t3 4 x5t3, zi G t4 4 x5t4, zi G t5 6 x5t5, zi G t6 6 x5t6, zi G t7 6 x5t7, zi G t8 6 x5t8, zo3 tt co en sk wr (nI tx), zr G co 6 fc, zr G en 6 fe, zi G ct 160 fct, zi G et 3 (nF fet), zi G sk 32 x5sk] → va_S A s.heap H locs → ∀ ls : Array Slot, lv_has ls 5 [zI 4 (nI p5), zI 3 gu, zR 0 h0, zI 1 (nI jn), zI 2 (nI nn)] → W p l e (headSpec wsX5_guiltyOfAll ({ frames := 5, cells := 0, slots := 0, locals := 441 })).room s m ([.ref h0, .int (nI jn), .int (nI nn)] : List Value).toArray below meth c H locs 0 0 (MQ below (q_X5_guiltyOfAll G h0 tt rd nw th kp sh tu n1 n2 n3 n4 n5 n6 n7 n8 t1 t2 t3 t4 t5 t6 t7 t8 co en sk ct et jg pb lw tx him wr tj tb tl fc fe fet fso fmi fpa fki fmo fsz frd unm uso umi upa uki umo usz urd fct fsk jn nn A) ([.ref h0, .int (nI jn), .int (nI nn)] : List Value).toArray s 0 0 A) (F0 m 5 ls []) := by
    intro n9
    induction n9 with
    | zero => intro p5 gu x5t1 x5sk x5t2 x5t3 x5t4 x5t5 x5t6 x5t7 x5t8 zj9l zb9l zl9l hp5 R5 hm9_5; exact absurd hm9_5 (Nat.not_lt_zero _)
    | succ n9 ih9_5 =>
      intro p5 gu x5t1 x5sk x5t2 x5t3 x5t4 x5t5 x5t6 x5t7 x5t8 zj9l zb9l zl9l hp5 R5 hm9_5 H locs hP hD hS ls hl
      refine lv_iload hx hb dX5_guiltyOfAll_5 (lv_at hl 0 rfl) ?_
      refine g_aget (D := G.1) (ci := 5) (v := .ref nw) (C := RX5) (T := TX5) (N := 8) hx hb dX5_guiltyOfAll_7 rfl (lv_at hl 2 rfl) hts hiX5 hown hK hP 0 rfl rfl 2 (by decide +kernel) kf28 (fun _ h9 => h9) rfl dX5_guiltyOfAll_8 ?_
      refine va_get (D := G.1) (ci := 0) (v := .int (nI pb)) (C := RX0) (T := TX0) (N := 12) hx hb hts hiX0 hown hK hP 1 rfl rfl 10 (by decide +kernel) kf71 (fun _ h9 => h9) rfl dX5_guiltyOfAll_11 ?_
      refine lv_icmp_ge (tgt := 51) hx hb dX5_guiltyOfAll_14 (by decide +kernel) (fun c_1 => ?_) (fun c_1 => ?_)
      · skip
        have c_1N : pb ≤ p5 := nI_le1 (a := pb) (b := p5) (by omega) (by omega) c_1
        have hF5 : (g_X5_guiltyOfAll_5 pb fet fso fmi fpa fki fmo fsz frd fct jn nn) = (p5, gu) := by rw [← R5, show pb - p5 = 0 by omega]; rfl
        have hE5_0 : p5 = ((g_X5_guiltyOfAll_5 pb fet fso fmi fpa fki fmo fsz frd fct jn nn).1) := by rw [hF5]
        have hE5_1 : gu = ((g_X5_guiltyOfAll_5 pb fet fso fmi fpa fki fmo fsz frd fct jn nn).2) := by rw [hF5]
        clear hF5 R5
        subst hE5_0
        subst hE5_1
        refine lv_iload_n hx hb dX5_guiltyOfAll_51 rfl (lv_at hl 1 rfl) ?_
        have hpost : (fun (r : Int32) (u : Int32 × Int32 × Int32 × (Nat → Int32) × (Nat → Int32) × (Nat → Int32) × (Nat → Int32) × (Nat → Int32) × (Nat → Int32) × (Nat → Int32) × (Nat → Int32) × (Nat → Int32)) => match u with | (zj9, zb9, zl9, yt1, yt2, yt3, yt4, yt5, yt6, yt7, yt8, ysk) => r = m_X5_guiltyOfAll pb fet fso fmi fpa fki fmo fsz frd fct jn nn) ((g_X5_guiltyOfAll_5 pb fet fso fmi fpa fki fmo fsz frd fct jn nn).2) (zj9l, zb9l, zl9l, x5t1, x5t2, x5t3, x5t4, x5t5, x5t6, x5t7, x5t8, x5sk) := (show m_X5_guiltyOfAll pb fet fso fmi fpa fki fmo fsz frd fct jn nn = ((g_X5_guiltyOfAll_5 pb fet fso fmi fpa fki fmo fsz frd fct jn nn).2) from rfl).symm
        exact W.iret (v := ((g_X5_guiltyOfAll_5 pb fet fso fmi fpa fki fmo fsz frd fct jn nn).2)) hx hb hr (fun t ht hW => ⟨⟨((g_X5_guiltyOfAll_5 pb fet fso fmi fpa fki fmo fsz frd fct jn nn).2), (zj9l, zb9l, zl9l, x5t1, x5t2, x5t3, x5t4, x5t5, x5t6, x5t7, x5t8, x5sk), rfl, hpost, by rw [ht]; exact hP, va_K.moved hW.alike hK, hD⟩, hS.F ht⟩) hS.2.2 dX5_guiltyOfAll_52
      · skip
        have c_1N : p5 < pb := nI_le0 (a := pb) (b := p5) (by omega) (by omega) c_1
        refine lv_aload_n hx hb dX5_guiltyOfAll_17 rfl (lv_at hl 2 rfl) ?_
        refine z_callv [0, 1, 2, 3, 4, 5, 6, 7, 8, 9, 11, 12, 13, 14, 15, 16, 17] (va_runV (As := []) (rest := []) ⟨hx, hb, hml, hown, hts⟩ (c_X5_think l G h0 tt rd nw th kp sh tu n1 n2 n3 n4 n5 n6 n7 n8 t1 t2 t3 t4 t5 t6 t7 t8 jg pb lw him zj9l zb9l zl9l fso fmi fpa fki fmo fsz frd x5t2 x5t3 x5t4 x5t5 x5t6 x5t7 x5t8 H.size (by first | exact hjg | assumption | omega) (by first | exact hpb | assumption | omega)) (cwV 0 hts gX5_guiltyOfAll_X5_think rfl rfl rfl (by decide +kernel) ⟨Nat.le_of_ble_eq_true rfl, Nat.le_of_ble_eq_true rfl⟩) ⟨gPre_blind, va_recv (q := (RX5, TX5, 8)) hK hP (ci := 5) (q0 := 0) rfl rfl, fun U hU hW => gPre_ofF [0, 1, 2, 3, 4, 5, 6, 7, 8, 9, 11, 12, 13, 14, 15, 16, 17] hU hW hK hP hD (by decide +kernel) rfl⟩ rfl rfl hl.1 rfl (lv_room (Nat.le_of_ble_eq_true rfl)) dX5_guiltyOfAll_18 ⟨Nat.le_of_ble_eq_true rfl, Nat.le_of_ble_eq_true rfl⟩) hS hD hA rfl (fun u t H locs ht hvm w_3 hB hz1 hk1 hFq hAq hS => ?_)
        obtain ⟨hP1, hK1, hD1⟩ := hB
        have hz9 : gPD G A [zo5 h0 tt rd nw th kp sh tu him, zo0 nw tt n1 n2 n3 n4 n5 n6 n7 n8 (nI jg) (nI pb) (nI lw), zi G n2 4 fso, zi G n3 4 fmi, zi G n4 4 fpa, zi G n5 6 fki, zi G n6 6 fmo, zi G n7 6 fsz, zi G n8 6 frd, zo0 th tt t1 t2 t3 t4 t5 t6 t7 t8 (nI jg) (nI pb) (nI lw), zi G t1 6 x5t1, zi G t2 4 fso, zi G t3 4 fmi, zi G t4 4 fpa, zi G t5 6 fki, zi G t6 6 fmo, zi G t7 6 fsz, zi G t8 6 frd, zo3 tt co en sk wr (nI tx), zr G co 6 fc, zr G en 6 fe, zi G ct 160 fct, zi G et 3 (nF fet), zi G sk 32 x5sk] H := zFill hP hD [0, 1, 2, 3, 4, 5, 6, 7, 8, 9, 11, 12, 13, 14, 15, 16, 17] [1, 2, 3, 4, 5, 6, 7, 8, 9, 10, 0, 11, 12, 13, 14, 15, 16, 17] hAq hk1 hFq ht hP1 hD1 rfl (by decide +kernel)
        have hP := hz9.1
        have hD := hz9.2
        refine lv_iload_n hx hb dX5_guiltyOfAll_21 rfl (lv_at hl 1 rfl) ?_
        refine g_aget (D := G.1) (ci := 5) (v := .ref th) (C := RX5) (T := TX5) (N := 8) hx hb dX5_guiltyOfAll_22 rfl (lv_at hl 2 rfl) hts hiX5 hown hK hP 0 rfl rfl 3 (by decide +kernel) kf32 (fun _ h9 => h9) rfl dX5_guiltyOfAll_23 ?_
        refine lv_iload_n hx hb dX5_guiltyOfAll_26 rfl (lv_at hl 3 rfl) ?_
        refine lv_iload hx hb dX5_guiltyOfAll_27 (lv_at hl 0 rfl) ?_
        refine g_aget (D := G.1) (ci := 5) (v := .ref th) (C := RX5) (T := TX5) (N := 8) hx hb dX5_guiltyOfAll_29 rfl (lv_at hl 2 rfl) hts hiX5 hown hK hP 0 rfl rfl 3 (by decide +kernel) kf32 (fun _ h9 => h9) rfl dX5_guiltyOfAll_30 ?_
        refine lv_iload_n hx hb dX5_guiltyOfAll_33 rfl (lv_at hl 3 rfl) ?_
        refine lv_iload hx hb dX5_guiltyOfAll_34 (lv_at hl 0 rfl) ?_
        refine lv_iload_n hx hb dX5_guiltyOfAll_36 rfl (lv_at hl 4 rfl) ?_
        refine z_calli [9, 10, 11, 12, 13, 14, 15, 16, 17, 18, 19, 20, 21, 22, 23] (v := m_X0_go jn p5 nn fso fmi fpa fki fmo fsz frd fct fet) (fun _ ⟨_, _⟩ h => h) (va_runV (As := [.int (nI jn), .int (nI p5), .int (nI nn)]) (rest := [.int (nI p5), .int (nI jn), .ref th, .int gu]) ⟨hx, hb, hml, hown, hts⟩ (c_X0_go l G th tt t1 t2 t3 t4 t5 t6 t7 t8 co en sk ct et lw jn p5 nn tx (nI jg) (nI pb) wr x5t1 fso fmi fpa fki fmo fsz frd fc fe fct fet x5sk H.size (by first | exact hj | assumption | omega) (by first | exact hp | assumption | omega) (by first | exact hnn | assumption | omega) (by first | exact htn | assumption | omega) (by first | exact hc | assumption | omega) (by first | exact he | assumption | omega) (by first | exact hwx | assumption | omega)) (cwV 3 hts gX5_guiltyOfAll_X0_go rfl rfl rfl (by decide +kernel) ⟨Nat.le_of_ble_eq_true rfl, Nat.le_of_ble_eq_true rfl⟩) ⟨gPre_blind, va_recv (q := (RX0, TX0, 12)) hK hP (ci := 0) (q0 := 9) rfl rfl, fun U hU hW => gPre_ofF [9, 10, 11, 12, 13, 14, 15, 16, 17, 18, 19, 20, 21, 22, 23] hU hW hK hP hD (by decide +kernel) rfl⟩ rfl rfl hl.1 rfl (lv_room (Nat.le_of_ble_eq_true rfl)) dX5_guiltyOfAll_37 ⟨Nat.le_of_ble_eq_true rfl, Nat.le_of_ble_eq_true rfl⟩) hS hD hA rfl (fun u t H locs ht hvm hB hz1 hk1 hFq hAq hS => ?_)
        obtain ⟨yn1_6, ysk_7⟩ := u
        obtain ⟨hP1, hK1, hD1⟩ := hB
        have hz9 : gPD G A [zo5 h0 tt rd nw th kp sh tu him, zo0 nw tt n1 n2 n3 n4 n5 n6 n7 n8 (nI jg) (nI pb) (nI lw), zi G n2 4 fso, zi G n3 4 fmi, zi G n4 4 fpa, zi G n5 6 fki, zi G n6 6 fmo, zi G n7 6 fsz, zi G n8 6 frd, zo0 th tt t1 t2 t3 t4 t5 t6 t7 t8 (nI jg) (nI pb) (nI lw), zi G t1 6 yn1_6, zi G t2 4 (m_X0_go_n2 jn p5 nn fso fmi fpa fki fmo fsz frd fct fet), zi G t3 4 (m_X0_go_n3 jn p5 nn fso fmi fpa fki fmo fsz frd fct fet), zi G t4 4 (m_X0_go_n4 jn p5 nn fso fmi fpa fki fmo fsz frd fct fet), zi G t5 6 fki, zi G t6 6 fmo, zi G t7 6 (m_X0_go_n7 jn p5 nn fso fmi fpa fki fmo fsz frd fct fet), zi G t8 6 frd, zo3 tt co en sk wr (nI tx), zr G co 6 fc, zr G en 6 fe, zi G ct 160 fct, zi G et 3 (nF fet), zi G sk 32 ysk_7] H := zFill hP hD [9, 10, 11, 12, 13, 14, 15, 16, 17, 18, 19, 20, 21, 22, 23] [0, 0, 0, 0, 0, 0, 0, 0, 0, 1, 2, 3, 4, 5, 6, 7, 8, 9, 10, 11, 12, 13, 14, 15] hAq hk1 hFq ht hP1 hD1 rfl (by decide +kernel)
        have hP := hz9.1
        have hD := hz9.2
        refine z_calli [9, 10, 11, 12, 15, 16, 17, 18, 19, 20, 21, 22, 23] (v := m_X0_verdict jn p5 (m_X0_go_n2 jn p5 nn fso fmi fpa fki fmo fsz frd fct fet) (m_X0_go_n3 jn p5 nn fso fmi fpa fki fmo fsz frd fct fet) fmo (m_X0_go_n7 jn p5 nn fso fmi fpa fki fmo fsz frd fct fet) frd fct fet (m_X0_go jn p5 nn fso fmi fpa fki fmo fsz frd fct fet)) (fun _ ⟨_, _⟩ h => h) (va_runV (As := [.int (nI jn), .int (nI p5), .int (m_X0_go jn p5 nn fso fmi fpa fki fmo fsz frd fct fet)]) (rest := [.int gu]) ⟨hx, hb, hml, hown, hts⟩ (c_X0_verdict l G th tt t1 t2 t3 t4 t5 t6 t7 t8 co en sk ct et lw jn p5 tx (nI jg) (nI pb) wr yn1_6 (m_X0_go_n2 jn p5 nn fso fmi fpa fki fmo fsz frd fct fet) (m_X0_go_n3 jn p5 nn fso fmi fpa fki fmo fsz frd fct fet) fmo (m_X0_go_n7 jn p5 nn fso fmi fpa fki fmo fsz frd fct fet) frd fc fe fct fet ysk_7 (m_X0_go jn p5 nn fso fmi fpa fki fmo fsz frd fct fet) H.size (by first | exact hj | assumption | omega) (by first | exact hp | assumption | omega) (by first | exact htn | assumption | omega) (by first | exact hc | assumption | omega) (by first | exact he | assumption | omega) (by first | exact hwx | assumption | omega)) (cwV 3 hts gX5_guiltyOfAll_X0_verdict rfl rfl rfl (by decide +kernel) ⟨Nat.le_of_ble_eq_true rfl, Nat.le_of_ble_eq_true rfl⟩) ⟨gPre_blind, va_recv (q := (RX0, TX0, 12)) hK hP (ci := 0) (q0 := 9) rfl rfl, fun U hU hW => gPre_ofF [9, 10, 11, 12, 15, 16, 17, 18, 19, 20, 21, 22, 23] hU hW hK hP hD (by decide +kernel) rfl⟩ rfl rfl hl.1 rfl (lv_room (Nat.le_of_ble_eq_true rfl)) dX5_guiltyOfAll_40 ⟨Nat.le_of_ble_eq_true rfl, Nat.le_of_ble_eq_true rfl⟩) hS hD hA rfl (fun u t H locs ht hvm hB hz1 hk1 hFq hAq hS => ?_)
        obtain ⟨yn1_10, ysk_11⟩ := u
        obtain ⟨hP1, hK1, hD1⟩ := hB
        have hz9 : gPD G A [zo5 h0 tt rd nw th kp sh tu him, zo0 nw tt n1 n2 n3 n4 n5 n6 n7 n8 (nI jg) (nI pb) (nI lw), zi G n2 4 fso, zi G n3 4 fmi, zi G n4 4 fpa, zi G n5 6 fki, zi G n6 6 fmo, zi G n7 6 fsz, zi G n8 6 frd, zo0 th tt t1 t2 t3 t4 t5 t6 t7 t8 (nI jg) (nI pb) (nI lw), zi G t1 6 yn1_10, zi G t2 4 (m_X0_go_n2 jn p5 nn fso fmi fpa fki fmo fsz frd fct fet), zi G t3 4 (m_X0_go_n3 jn p5 nn fso fmi fpa fki fmo fsz frd fct fet), zi G t4 4 (m_X0_go_n4 jn p5 nn fso fmi fpa fki fmo fsz frd fct fet), zi G t5 6 fki, zi G t6 6 fmo, zi G t7 6 (m_X0_go_n7 jn p5 nn fso fmi fpa fki fmo fsz frd fct fet), zi G t8 6 frd, zo3 tt co en sk wr (nI tx), zr G co 6 fc, zr G en 6 fe, zi G ct 160 fct, zi G et 3 (nF fet), zi G sk 32 ysk_11] H := zFill hP hD [9, 10, 11, 12, 15, 16, 17, 18, 19, 20, 21, 22, 23] [0, 0, 0, 0, 0, 0, 0, 0, 0, 1, 2, 3, 4, 0, 0, 5, 6, 7, 8, 9, 10, 11, 12, 13] hAq hk1 hFq ht hP1 hD1 rfl (by decide +kernel)
        have hP := hz9.1
        have hD := hz9.2
        refine lv_iadd hx hb dX5_guiltyOfAll_43 ?_
        refine lv_istore_n (lv' := [zI 3 (gu + (m_X0_verdict jn p5 (m_X0_go_n2 jn p5 nn fso fmi fpa fki fmo fsz frd fct fet) (m_X0_go_n3 jn p5 nn fso fmi fpa fki fmo fsz frd fct fet) fmo (m_X0_go_n7 jn p5 nn fso fmi fpa fki fmo fsz frd fct fet) frd fct fet (m_X0_go jn p5 nn fso fmi fpa fki fmo fsz frd fct fet))), zI 4 (nI p5), zR 0 h0, zI 1 (nI jn), zI 2 (nI nn)]) hx hb dX5_guiltyOfAll_44 rfl hl (by decide +kernel) rfl (fun ls hl => ?_)
        refine lv_iinc (v := nI (p5 + 1)) (lv' := [zI 4 (nI (p5 + 1)), zI 3 (gu + (m_X0_verdict jn p5 (m_X0_go_n2 jn p5 nn fso fmi fpa fki fmo fsz frd fct fet) (m_X0_go_n3 jn p5 nn fso fmi fpa fki fmo fsz frd fct fet) fmo (m_X0_go_n7 jn p5 nn fso fmi fpa fki fmo fsz frd fct fet) frd fct fet (m_X0_go jn p5 nn fso fmi fpa fki fmo fsz frd fct fet))), zR 0 h0, zI 1 (nI jn), zI 2 (nI nn)]) hx hb dX5_guiltyOfAll_45 hl (k := 1) rfl (nI_add p5 1) (by decide +kernel) rfl (fun ls hl => ?_)
        refine lv_goto (tgt := 5) hx hb dX5_guiltyOfAll_48 (by decide +kernel) ?_
        exact ih9_5 (p5 + 1) (gu + (m_X0_verdict jn p5 (m_X0_go_n2 jn p5 nn fso fmi fpa fki fmo fsz frd fct fet) (m_X0_go_n3 jn p5 nn fso fmi fpa fki fmo fsz frd fct fet) fmo (m_X0_go_n7 jn p5 nn fso fmi fpa fki fmo fsz frd fct fet) frd fct fet (m_X0_go jn p5 nn fso fmi fpa fki fmo fsz frd fct fet))) yn1_10 ysk_11 (m_X0_go_n2 jn p5 nn fso fmi fpa fki fmo fsz frd fct fet) (m_X0_go_n3 jn p5 nn fso fmi fpa fki fmo fsz frd fct fet) (m_X0_go_n4 jn p5 nn fso fmi fpa fki fmo fsz frd fct fet) fki fmo (m_X0_go_n7 jn p5 nn fso fmi fpa fki fmo fsz frd fct fet) frd (nI jg) (nI pb) (nI lw) (by omega) (Eq.trans (Eq.symm ((congrArg (fun z9 => p_X5_guiltyOfAll_5 fet fso fmi fpa fki fmo fsz frd fct jn nn (z9) p5 gu) (show pb - p5 = pb - (p5 + 1) + 1 by omega)).trans (by show p_X5_guiltyOfAll_5 fet fso fmi fpa fki fmo fsz frd fct jn nn (pb - (p5 + 1) + 1) p5 gu = _; rw [p_X5_guiltyOfAll_5]))) R5) (by omega) _ _ hP hD hS ls hl
  exact loop_5 (pb - 0 + 1) 0 0 unm fsk uso umi upa uki umo usz urd tj tb tl (by omega) (rfl) (by omega) _ _ hP hD hS ls hl
noncomputable def m_X5_count (jg : Nat) (pb : Nat) (lw : Nat) (tx : Nat) (td : Nat) (v0 : Int32) : Int32 := if v0 = 0 then nI pb else (if v0 = 1 then nI jg else (if v0 = 2 then nI tx else (if v0 = 3 then nI lw else (if v0 = 4 then nI td else -2))))
abbrev q_X5_count (G : gG) (h0 tt rd nw th kp sh tu n1 n2 n3 n4 n5 n6 n7 n8 co en sk b0 : Nat) (jg : Nat) (pb : Nat) (lw : Nat) (tx : Nat) (td : Nat) (him : Int32) (wr : Int32) (x2 : Int32) (x3 : Int32) (x4 : Int32) (x5 : Int32) (v0 : Int32) (A : Nat → Prop) : Array Value → State → Outcome → State → Prop := va_Qi (fun (r : Int32) (u : Unit) => match u with | _ => r = m_X5_count jg pb lw tx td v0) (fun (u : Unit) t => match u with | _ => va_P G.1 vwCl [zo5 h0 tt rd nw th kp sh tu him, zo0 nw tt n1 n2 n3 n4 n5 n6 n7 n8 (nI jg) (nI pb) (nI lw), zo3 tt co en sk wr (nI tx), zo1 rd tt b0 x2 x3 x4 x5 (nI td)] t.heap ∧ gK G t ∧ va_D A [zo5 h0 tt rd nw th kp sh tu him, zo0 nw tt n1 n2 n3 n4 n5 n6 n7 n8 (nI jg) (nI pb) (nI lw), zo3 tt co en sk wr (nI tx), zo1 rd tt b0 x2 x3 x4 x5 (nI td)]) A
set_option maxHeartbeats 4000000 in
set_option maxRecDepth 100000 in
theorem c_X5_count (l : Launch) (G : gG) (h0 tt rd nw th kp sh tu n1 n2 n3 n4 n5 n6 n7 n8 co en sk b0 : Nat) (jg : Nat) (pb : Nat) (lw : Nat) (tx : Nat) (td : Nat) (him : Int32) (wr : Int32) (x2 : Int32) (x3 : Int32) (x4 : Int32) (x5 : Int32) (v0 : Int32) (sz : Nat) (hjg : jg ≤ 4) (hpb : pb ≤ 6) : Met l yX5_count wsX5_count ({ frames := 0, cells := 0, slots := 0, locals := 0 }) (gPre G [.ref h0, .int v0] [zo5 h0 tt rd nw th kp sh tu him, zo0 nw tt n1 n2 n3 n4 n5 n6 n7 n8 (nI jg) (nI pb) (nI lw), zo3 tt co en sk wr (nI tx), zo1 rd tt b0 x2 x3 x4 x5 (nI td)] sz) (q_X5_count G h0 tt rd nw th kp sh tu n1 n2 n3 n4 n5 n6 n7 n8 co en sk b0 jg pb lw tx td him wr x2 x3 x4 x5 v0 (va_A [zo5 h0 tt rd nw th kp sh tu him, zo0 nw tt n1 n2 n3 n4 n5 n6 n7 n8 (nI jg) (nI pb) (nI lw), zo3 tt co en sk wr (nI tx), zo1 rd tt b0 x2 x3 x4 x5 (nI td)] sz)) 0 0 (va_A [zo5 h0 tt rd nw th kp sh tu him, zo0 nw tt n1 n2 n3 n4 n5 n6 n7 n8 (nI jg) (nI pb) (nI lw), zo3 tt co en sk wr (nI tx), zo1 rd tt b0 x2 x3 x4 x5 (nI td)] sz) := by
  refine Met.ofW (cc := cX5_count) (maxL := 2) (ret := (some .int)) (by decide +kernel) rfl ?_
  intro p e s m args below meth c s₁ B hml hv
  obtain ⟨rfl, hsz, hP, hK, hD0⟩ := hv
  have hx := B.exec
  have hb := B.bytes
  have hr := B.returns
  have hts := atoms_spec (ws := wsX5_count) B.pre
  have hown : s.vm.findClass RX5 = some m.cls := findClass_of_methodNamed B.named
  have hlocks := B.notSynchronized
  subst hsz
  have hD := hD0.self (sz := s.heap.size)
  generalize hAe : va_A [zo5 h0 tt rd nw th kp sh tu him, zo0 nw tt n1 n2 n3 n4 n5 n6 n7 n8 (nI jg) (nI pb) (nI lw), zo3 tt co en sk wr (nI tx), zo1 rd tt b0 x2 x3 x4 x5 (nI td)] s.heap.size = A at hD ⊢
  have hA : ∀ q : Nat, s.heap.size ≤ q → A q := fun q h => by rw [← hAe]; exact Or.inr h
  have hS : va_S A s.heap s.heap [] := va_S.rf
  have hz9 : gPD G A [zo5 h0 tt rd nw th kp sh tu him, zo0 nw tt n1 n2 n3 n4 n5 n6 n7 n8 (nI jg) (nI pb) (nI lw), zo3 tt co en sk wr (nI tx), zo1 rd tt b0 x2 x3 x4 x5 (nI td)] s.heap := ⟨hP, hD⟩
  have hP := hz9.1
  have hD := hz9.2
  have hl := lv_entry ([.ref h0, .int v0]) (n := 2) (Nat.le_of_ble_eq_true rfl)
  rw [lg_entry_eq]
  generalize (lg_sl ([.ref h0, .int v0]) ++ List.replicate (2 - (lg_sl ([.ref h0, .int v0])).length) Slot.unset).toArray = ls at hl ⊢
  have hl : lv_has ls 2 [zR 0 h0, zI 1 v0] := hl
  have kf28 := hts (.fieldLink RX5 28 "PebbleInShoe" "now" "LPebbleInShoe$Court;") (by decide +kernel)
  have hiX5 := (by decide +kernel : ∀ w ∈ wsX50, w ∈ wsX5_count)
  have kf71 := hts (.fieldLink RX5 71 "PebbleInShoe$Court" "pebbles" "I") (by decide +kernel)
  have hiX0 := (by decide +kernel : ∀ w ∈ wsX00, w ∈ wsX5_count)
  have kf75 := hts (.fieldLink RX5 75 "PebbleInShoe$Court" "judges" "I") (by decide +kernel)
  have kf10 := hts (.fieldLink RX5 10 "PebbleInShoe" "texts" "LPebbleInShoe$Texts;") (by decide +kernel)
  have kf78 := hts (.fieldLink RX5 78 "PebbleInShoe$Texts" "number" "I") (by decide +kernel)
  have hiX3 := (by decide +kernel : ∀ w ∈ wsX30, w ∈ wsX5_count)
  have kf81 := hts (.fieldLink RX5 81 "PebbleInShoe$Court" "law" "I") (by decide +kernel)
  have kf21 := hts (.fieldLink RX5 21 "PebbleInShoe" "tape" "LPebbleInShoe$Reader;") (by decide +kernel)
  have kf84 := hts (.fieldLink RX5 84 "PebbleInShoe$Reader" "length" "I") (by decide +kernel)
  have hiX1 := (by decide +kernel : ∀ w ∈ wsX10, w ∈ wsX5_count)
  refine lv_iload_n hx hb dX5_count_0 rfl (lv_at hl 1 rfl) ?_
  by_cases s_1 : v0 = 0
  · skip
    refine lv_tableIn (off := 35) (tgt := 36) hx hb dX5_count_1 (by rw [s_1]; decide) (by rw [s_1]; decide) (by rw [s_1]; decide) (by decide +kernel) ?_
    refine g_aget (D := G.1) (ci := 5) (v := .ref nw) (C := RX5) (T := TX5) (N := 8) hx hb dX5_count_36 rfl (lv_at hl 0 rfl) hts hiX5 hown hK hP 0 rfl rfl 2 (by decide +kernel) kf28 (fun _ h9 => h9) rfl dX5_count_37 ?_
    refine va_get (D := G.1) (ci := 0) (v := .int (nI pb)) (C := RX0) (T := TX0) (N := 12) hx hb hts hiX0 hown hK hP 1 rfl rfl 10 (by decide +kernel) kf71 (fun _ h9 => h9) rfl dX5_count_40 ?_
    have hpost : (fun (r : Int32) (u : Unit) => match u with | _ => r = m_X5_count jg pb lw tx td v0) (nI pb) () := (show m_X5_count jg pb lw tx td v0 = (nI pb) from by unfold m_X5_count; rw [if_pos s_1]).symm
    exact W.iret (v := (nI pb)) hx hb hr (fun t ht hW => ⟨⟨(nI pb), (), rfl, hpost, by rw [ht]; exact hP, va_K.moved hW.alike hK, hD⟩, hS.F ht⟩) hS.2.2 dX5_count_43
  by_cases s_2 : v0 = 1
  · skip
    refine lv_tableIn (off := 43) (tgt := 44) hx hb dX5_count_1 (by rw [s_2]; decide) (by rw [s_2]; decide) (by rw [s_2]; decide) (by decide +kernel) ?_
    refine g_aget (D := G.1) (ci := 5) (v := .ref nw) (C := RX5) (T := TX5) (N := 8) hx hb dX5_count_44 rfl (lv_at hl 0 rfl) hts hiX5 hown hK hP 0 rfl rfl 2 (by decide +kernel) kf28 (fun _ h9 => h9) rfl dX5_count_45 ?_
    refine va_get (D := G.1) (ci := 0) (v := .int (nI jg)) (C := RX0) (T := TX0) (N := 12) hx hb hts hiX0 hown hK hP 1 rfl rfl 9 (by decide +kernel) kf75 (fun _ h9 => h9) rfl dX5_count_48 ?_
    have hpost : (fun (r : Int32) (u : Unit) => match u with | _ => r = m_X5_count jg pb lw tx td v0) (nI jg) () := (show m_X5_count jg pb lw tx td v0 = (nI jg) from by unfold m_X5_count; rw [if_neg s_1, if_pos s_2]).symm
    exact W.iret (v := (nI jg)) hx hb hr (fun t ht hW => ⟨⟨(nI jg), (), rfl, hpost, by rw [ht]; exact hP, va_K.moved hW.alike hK, hD⟩, hS.F ht⟩) hS.2.2 dX5_count_51
  by_cases s_3 : v0 = 2
  · skip
    refine lv_tableIn (off := 51) (tgt := 52) hx hb dX5_count_1 (by rw [s_3]; decide) (by rw [s_3]; decide) (by rw [s_3]; decide) (by decide +kernel) ?_
    refine g_aget (D := G.1) (ci := 5) (v := .ref tt) (C := RX5) (T := TX5) (N := 8) hx hb dX5_count_52 rfl (lv_at hl 0 rfl) hts hiX5 hown hK hP 0 rfl rfl 0 (by decide +kernel) kf10 (fun _ h9 => h9) rfl dX5_count_53 ?_
    refine va_get (D := G.1) (ci := 3) (v := .int (nI tx)) (C := RX3) (T := TX3) (N := 5) hx hb hts hiX3 hown hK hP 2 rfl rfl 4 (by decide +kernel) kf78 (fun _ h9 => h9) rfl dX5_count_56 ?_
    have hpost : (fun (r : Int32) (u : Unit) => match u with | _ => r = m_X5_count jg pb lw tx td v0) (nI tx) () := (show m_X5_count jg pb lw tx td v0 = (nI tx) from by unfold m_X5_count; rw [if_neg s_1, if_neg s_2, if_pos s_3]).symm
    exact W.iret (v := (nI tx)) hx hb hr (fun t ht hW => ⟨⟨(nI tx), (), rfl, hpost, by rw [ht]; exact hP, va_K.moved hW.alike hK, hD⟩, hS.F ht⟩) hS.2.2 dX5_count_59
  by_cases s_4 : v0 = 3
  · skip
    refine lv_tableIn (off := 59) (tgt := 60) hx hb dX5_count_1 (by rw [s_4]; decide) (by rw [s_4]; decide) (by rw [s_4]; decide) (by decide +kernel) ?_
    refine g_aget (D := G.1) (ci := 5) (v := .ref nw) (C := RX5) (T := TX5) (N := 8) hx hb dX5_count_60 rfl (lv_at hl 0 rfl) hts hiX5 hown hK hP 0 rfl rfl 2 (by decide +kernel) kf28 (fun _ h9 => h9) rfl dX5_count_61 ?_
    refine va_get (D := G.1) (ci := 0) (v := .int (nI lw)) (C := RX0) (T := TX0) (N := 12) hx hb hts hiX0 hown hK hP 1 rfl rfl 11 (by decide +kernel) kf81 (fun _ h9 => h9) rfl dX5_count_64 ?_
    have hpost : (fun (r : Int32) (u : Unit) => match u with | _ => r = m_X5_count jg pb lw tx td v0) (nI lw) () := (show m_X5_count jg pb lw tx td v0 = (nI lw) from by unfold m_X5_count; rw [if_neg s_1, if_neg s_2, if_neg s_3, if_pos s_4]).symm
    exact W.iret (v := (nI lw)) hx hb hr (fun t ht hW => ⟨⟨(nI lw), (), rfl, hpost, by rw [ht]; exact hP, va_K.moved hW.alike hK, hD⟩, hS.F ht⟩) hS.2.2 dX5_count_67
  by_cases s_5 : v0 = 4
  · skip
    refine lv_tableIn (off := 67) (tgt := 68) hx hb dX5_count_1 (by rw [s_5]; decide) (by rw [s_5]; decide) (by rw [s_5]; decide) (by decide +kernel) ?_
    refine g_aget (D := G.1) (ci := 5) (v := .ref rd) (C := RX5) (T := TX5) (N := 8) hx hb dX5_count_68 rfl (lv_at hl 0 rfl) hts hiX5 hown hK hP 0 rfl rfl 1 (by decide +kernel) kf21 (fun _ h9 => h9) rfl dX5_count_69 ?_
    refine va_get (D := G.1) (ci := 1) (v := .int (nI td)) (C := RX1) (T := TX1) (N := 7) hx hb hts hiX1 hown hK hP 3 rfl rfl 6 (by decide +kernel) kf84 (fun _ h9 => h9) rfl dX5_count_72 ?_
    have hpost : (fun (r : Int32) (u : Unit) => match u with | _ => r = m_X5_count jg pb lw tx td v0) (nI td) () := (show m_X5_count jg pb lw tx td v0 = (nI td) from by unfold m_X5_count; rw [if_neg s_1, if_neg s_2, if_neg s_3, if_neg s_4, if_pos s_5]).symm
    exact W.iret (v := (nI td)) hx hb hr (fun t ht hW => ⟨⟨(nI td), (), rfl, hpost, by rw [ht]; exact hP, va_K.moved hW.alike hK, hD⟩, hS.F ht⟩) hS.2.2 dX5_count_75
  have s_1T := lv_neT (a := 0) s_1 (by decide +kernel)
  have s_2T := lv_neT (a := 1) s_2 (by decide +kernel)
  have s_3T := lv_neT (a := 2) s_3 (by decide +kernel)
  have s_4T := lv_neT (a := 3) s_4 (by decide +kernel)
  have s_5T := lv_neT (a := 4) s_5 (by decide +kernel)
  refine lv_tableOut (tgt := 76) hx hb dX5_count_1 (by omega) (by decide +kernel) ?_
  refine lv_bipush (v := -2) hx hb dX5_count_76 (by decide +kernel) ?_
  have hpost : (fun (r : Int32) (u : Unit) => match u with | _ => r = m_X5_count jg pb lw tx td v0) (-2) () := (show m_X5_count jg pb lw tx td v0 = (-2) from by unfold m_X5_count; rw [if_neg s_1, if_neg s_2, if_neg s_3, if_neg s_4, if_neg s_5]).symm
  exact W.iret (v := (-2)) hx hb hr (fun t ht hW => ⟨⟨(-2), (), rfl, hpost, by rw [ht]; exact hP, va_K.moved hW.alike hK, hD⟩, hS.F ht⟩) hS.2.2 dX5_count_78
noncomputable def m_X5_judge (jg : Nat) (v0 : Int32) : Int32 := if 0 ≤ v0 ∧ v0 ≤ 20 then m_X0_addJudge jg else -2
noncomputable def m_X5_judge_nw9 (jg : Nat) (v0 : Int32) : Nat := if 0 ≤ v0 ∧ v0 ≤ 20 then (m_X0_addJudge_h09 jg) else jg
noncomputable def m_X5_judge_n2 (jg : Nat) (fso : Nat → Int32) (v0 : Int32) : Nat → Int32 := if 0 ≤ v0 ∧ v0 ≤ 20 then (m_X0_addJudge_n2 jg fso (nI (nC v0))) else fso
noncomputable def m_X5_judge_n3 (jg : Nat) (fmi : Nat → Int32) (v0 : Int32) : Nat → Int32 := if 0 ≤ v0 ∧ v0 ≤ 20 then (m_X0_addJudge_n3 jg fmi) else fmi
noncomputable def m_X5_judge_n4 (jg : Nat) (fpa : Nat → Int32) (v0 : Int32) : Nat → Int32 := if 0 ≤ v0 ∧ v0 ≤ 20 then (m_X0_addJudge_n4 jg fpa) else fpa
abbrev q_X5_judge (G : gG) (h0 tt rd nw th kp sh tu n1 n2 n3 n4 n5 n6 n7 n8 : Nat) (jg : Nat) (pb : Nat) (lw : Nat) (him : Int32) (fso : Nat → Int32) (fmi : Nat → Int32) (fpa : Nat → Int32) (v0 : Int32) (A : Nat → Prop) : Array Value → State → Outcome → State → Prop := va_Qi (fun (r : Int32) (u : Unit) => match u with | _ => r = m_X5_judge jg v0) (fun (u : Unit) t => match u with | _ => va_P G.1 vwCl [zo5 h0 tt rd nw th kp sh tu him, zo0 nw tt n1 n2 n3 n4 n5 n6 n7 n8 (nI (m_X5_judge_nw9 jg v0)) (nI pb) (nI lw), zi G n2 4 (m_X5_judge_n2 jg fso v0), zi G n3 4 (m_X5_judge_n3 jg fmi v0), zi G n4 4 (m_X5_judge_n4 jg fpa v0)] t.heap ∧ gK G t ∧ va_D A [zo5 h0 tt rd nw th kp sh tu him, zo0 nw tt n1 n2 n3 n4 n5 n6 n7 n8 (nI (m_X5_judge_nw9 jg v0)) (nI pb) (nI lw), zi G n2 4 (m_X5_judge_n2 jg fso v0), zi G n3 4 (m_X5_judge_n3 jg fmi v0), zi G n4 4 (m_X5_judge_n4 jg fpa v0)]) A
set_option maxHeartbeats 4000000 in
set_option maxRecDepth 100000 in
theorem c_X5_judge (l : Launch) (G : gG) (h0 tt rd nw th kp sh tu n1 n2 n3 n4 n5 n6 n7 n8 : Nat) (jg : Nat) (pb : Nat) (lw : Nat) (him : Int32) (fso : Nat → Int32) (fmi : Nat → Int32) (fpa : Nat → Int32) (v0 : Int32) (sz : Nat) (hjg : jg ≤ 4) (hpb : pb ≤ 6) : Met l yX5_judge wsX5_judge ({ frames := 1, cells := 0, slots := 0, locals := 22 }) (gPre G [.ref h0, .int v0] [zo5 h0 tt rd nw th kp sh tu him, zo0 nw tt n1 n2 n3 n4 n5 n6 n7 n8 (nI jg) (nI pb) (nI lw), zi G n2 4 fso, zi G n3 4 fmi, zi G n4 4 fpa] sz) (q_X5_judge G h0 tt rd nw th kp sh tu n1 n2 n3 n4 n5 n6 n7 n8 jg pb lw him fso fmi fpa v0 (va_A [zo5 h0 tt rd nw th kp sh tu him, zo0 nw tt n1 n2 n3 n4 n5 n6 n7 n8 (nI jg) (nI pb) (nI lw), zi G n2 4 fso, zi G n3 4 fmi, zi G n4 4 fpa] sz)) 0 0 (va_A [zo5 h0 tt rd nw th kp sh tu him, zo0 nw tt n1 n2 n3 n4 n5 n6 n7 n8 (nI jg) (nI pb) (nI lw), zi G n2 4 fso, zi G n3 4 fmi, zi G n4 4 fpa] sz) := by
  refine Met.ofW (cc := cX5_judge) (maxL := 2) (ret := (some .int)) (by decide +kernel) rfl ?_
  intro p e s m args below meth c s₁ B hml hv
  obtain ⟨rfl, hsz, hP, hK, hD0⟩ := hv
  have hx := B.exec
  have hb := B.bytes
  have hr := B.returns
  have hts := atoms_spec (ws := wsX5_judge) B.pre
  have hown : s.vm.findClass RX5 = some m.cls := findClass_of_methodNamed B.named
  have hlocks := B.notSynchronized
  subst hsz
  have hD := hD0.self (sz := s.heap.size)
  generalize hAe : va_A [zo5 h0 tt rd nw th kp sh tu him, zo0 nw tt n1 n2 n3 n4 n5 n6 n7 n8 (nI jg) (nI pb) (nI lw), zi G n2 4 fso, zi G n3 4 fmi, zi G n4 4 fpa] s.heap.size = A at hD ⊢
  have hA : ∀ q : Nat, s.heap.size ≤ q → A q := fun q h => by rw [← hAe]; exact Or.inr h
  have hS : va_S A s.heap s.heap [] := va_S.rf
  have hz9 : gPD G A [zo5 h0 tt rd nw th kp sh tu him, zo0 nw tt n1 n2 n3 n4 n5 n6 n7 n8 (nI jg) (nI pb) (nI lw), zi G n2 4 fso, zi G n3 4 fmi, zi G n4 4 fpa] s.heap := ⟨hP, hD⟩
  have hP := hz9.1
  have hD := hz9.2
  have hl := lv_entry ([.ref h0, .int v0]) (n := 2) (Nat.le_of_ble_eq_true rfl)
  rw [lg_entry_eq]
  generalize (lg_sl ([.ref h0, .int v0]) ++ List.replicate (2 - (lg_sl ([.ref h0, .int v0])).length) Slot.unset).toArray = ls at hl ⊢
  have hl : lv_has ls 2 [zR 0 h0, zI 1 v0] := hl
  have kf28 := hts (.fieldLink RX5 28 "PebbleInShoe" "now" "LPebbleInShoe$Court;") (by decide +kernel)
  have hiX5 := (by decide +kernel : ∀ w ∈ wsX50, w ∈ wsX5_judge)
  refine lv_iload_n hx hb dX5_judge_0 rfl (lv_at hl 1 rfl) ?_
  refine lv_bipush (v := 20) hx hb dX5_judge_1 (by decide +kernel) ?_
  refine z_calli [] (v := bz (decide (0 ≤ v0 ∧ v0 ≤ 20))) (fun _ _ h => h) (va_runS (As := [.int v0, .int 20]) (rest := []) ⟨hx, hb, hml, hown, hts⟩ (c_X5_within_g l G v0 20 s.heap.size) (va_cwS 2 hts gX5_judge_X5_within rfl rfl rfl (by decide +kernel) ⟨Nat.le_of_ble_eq_true rfl, Nat.le_of_ble_eq_true rfl⟩) ⟨gPre_blind, fun U hU hW => gPre_ofF [] hU hW hK hP hD (by decide +kernel) rfl⟩ rfl rfl hl.1 rfl (lv_room (Nat.le_of_ble_eq_true rfl)) dX5_judge_3 ⟨Nat.le_of_ble_eq_true rfl, Nat.le_of_ble_eq_true rfl⟩) hS hD hA rfl (fun u t H locs ht hvm hB hz1 hk1 hFq hAq hS => ?_)
  obtain ⟨hP1, hK1, hD1⟩ := hB
  have hP := zKeep hP hD [] hAq hk1 ht hP1 rfl
  refine lv_if_ne (tgt := 12) hx hb dX5_judge_6 (by decide +kernel) (fun c_3 => ?_) (fun c_3 => ?_)
  · skip
    have p_4 : 0 ≤ v0 ∧ v0 ≤ 20 := of_decide_eq_true (bz_ne rfl c_3)
    have hv_6 : v0 = nI (nC v0) := nC_eq p_4.1
    have hk_7 : nC v0 ≤ 20 := nC_le (n := 20) (by omega) p_4
    refine g_aget (D := G.1) (ci := 5) (v := .ref nw) (C := RX5) (T := TX5) (N := 8) hx hb dX5_judge_12 rfl (lv_at hl 0 rfl) hts hiX5 hown hK hP 0 rfl rfl 2 (by decide +kernel) kf28 (fun _ h9 => h9) rfl dX5_judge_13 ?_
    refine lv_iload_n hx hb dX5_judge_16 rfl (lv_at hl 1 rfl) ?_
    refine g_topi (y := nI (nC v0)) hv_6 ?_
    refine z_calli [1, 2, 3, 4] (v := m_X0_addJudge jg) (fun _ _ h => h) (va_runV (As := [.int (nI (nC v0))]) (rest := []) ⟨hx, hb, hml, hown, hts⟩ (c_X0_addJudge l G nw tt n1 n2 n3 n4 n5 n6 n7 n8 jg pb lw fso fmi fpa (nI (nC v0)) H.size (by first | exact hjg | assumption | omega) (by first | exact hpb | assumption | omega)) (cwV 1 hts gX5_judge_X0_addJudge rfl rfl rfl (by decide +kernel) ⟨Nat.le_of_ble_eq_true rfl, Nat.le_of_ble_eq_true rfl⟩) ⟨gPre_blind, va_recv (q := (RX0, TX0, 12)) hK hP (ci := 0) (q0 := 1) rfl rfl, fun U hU hW => gPre_ofF [1, 2, 3, 4] hU hW hK hP hD (by decide +kernel) rfl⟩ rfl rfl hl.1 rfl (lv_room (Nat.le_of_ble_eq_true rfl)) dX5_judge_17 ⟨Nat.le_of_ble_eq_true rfl, Nat.le_of_ble_eq_true rfl⟩) hS hD hA rfl (fun u t H locs ht hvm hB hz1 hk1 hFq hAq hS => ?_)
    obtain ⟨hP1, hK1, hD1⟩ := hB
    have hz9 : gPD G A [zo5 h0 tt rd nw th kp sh tu him, zo0 nw tt n1 n2 n3 n4 n5 n6 n7 n8 (nI (m_X0_addJudge_h09 jg)) (nI pb) (nI lw), zi G n2 4 (m_X0_addJudge_n2 jg fso (nI (nC v0))), zi G n3 4 (m_X0_addJudge_n3 jg fmi), zi G n4 4 (m_X0_addJudge_n4 jg fpa)] H := zFill hP hD [1, 2, 3, 4] [0, 1, 2, 3, 4] hAq hk1 hFq ht hP1 hD1 rfl (by decide +kernel)
    have hP := hz9.1
    have hD := hz9.2
    have q_11 : m_X5_judge_nw9 jg v0 = m_X0_addJudge_h09 jg := by unfold m_X5_judge_nw9; rw [if_pos p_4]
    have q_12 : m_X5_judge_n2 jg fso v0 = (m_X0_addJudge_n2 jg fso (nI (nC v0))) := by unfold m_X5_judge_n2; rw [if_pos p_4]
    have q_13 : m_X5_judge_n3 jg fmi v0 = (m_X0_addJudge_n3 jg fmi) := by unfold m_X5_judge_n3; rw [if_pos p_4]
    have q_14 : m_X5_judge_n4 jg fpa v0 = (m_X0_addJudge_n4 jg fpa) := by unfold m_X5_judge_n4; rw [if_pos p_4]
    have hz9 : gPD G A [zo5 h0 tt rd nw th kp sh tu him, zo0 nw tt n1 n2 n3 n4 n5 n6 n7 n8 (nI (m_X5_judge_nw9 jg v0)) (nI pb) (nI lw), zi G n2 4 (m_X5_judge_n2 jg fso v0), zi G n3 4 (m_X5_judge_n3 jg fmi v0), zi G n4 4 (m_X5_judge_n4 jg fpa v0)] H := ⟨by rw [q_11, q_12, q_13, q_14]; exact hP, by rw [q_11, q_12, q_13, q_14]; exact hD⟩
    have hP9 := hz9.1
    have hD9 := hz9.2
    have hpost : (fun (r : Int32) (u : Unit) => match u with | _ => r = m_X5_judge jg v0) (m_X0_addJudge jg) () := (show m_X5_judge jg v0 = (m_X0_addJudge jg) from by unfold m_X5_judge; rw [if_pos p_4]).symm
    exact W.iret (v := (m_X0_addJudge jg)) hx hb hr (fun t ht hW => ⟨⟨(m_X0_addJudge jg), (), rfl, hpost, by rw [ht]; exact hP9, va_K.moved hW.alike hK, hD9⟩, hS.F ht⟩) hS.2.2 dX5_judge_20
  · skip
    have n_5 : ¬ (0 ≤ v0 ∧ v0 ≤ 20) := of_decide_eq_false (bz_eq rfl c_3)
    refine lv_bipush (v := -2) hx hb dX5_judge_9 (by decide +kernel) ?_
    have q_15 : m_X5_judge_nw9 jg v0 = jg := by unfold m_X5_judge_nw9; rw [if_neg n_5]
    have q_16 : m_X5_judge_n2 jg fso v0 = fso := by unfold m_X5_judge_n2; rw [if_neg n_5]
    have q_17 : m_X5_judge_n3 jg fmi v0 = fmi := by unfold m_X5_judge_n3; rw [if_neg n_5]
    have q_18 : m_X5_judge_n4 jg fpa v0 = fpa := by unfold m_X5_judge_n4; rw [if_neg n_5]
    have hz9 : gPD G A [zo5 h0 tt rd nw th kp sh tu him, zo0 nw tt n1 n2 n3 n4 n5 n6 n7 n8 (nI (m_X5_judge_nw9 jg v0)) (nI pb) (nI lw), zi G n2 4 (m_X5_judge_n2 jg fso v0), zi G n3 4 (m_X5_judge_n3 jg fmi v0), zi G n4 4 (m_X5_judge_n4 jg fpa v0)] H := ⟨by rw [q_15, q_16, q_17, q_18]; exact hP, by rw [q_15, q_16, q_17, q_18]; exact hD⟩
    have hP9 := hz9.1
    have hD9 := hz9.2
    have hpost : (fun (r : Int32) (u : Unit) => match u with | _ => r = m_X5_judge jg v0) (-2) () := (show m_X5_judge jg v0 = (-2) from by unfold m_X5_judge; rw [if_neg n_5]).symm
    exact W.iret (v := (-2)) hx hb hr (fun t ht hW => ⟨⟨(-2), (), rfl, hpost, by rw [ht]; exact hP9, va_K.moved hW.alike hK, hD9⟩, hS.F ht⟩) hS.2.2 dX5_judge_11
noncomputable def m_X5_shoe (jg : Nat) (fso : Nat → Int32) (fmi : Nat → Int32) (v0 : Int32) (v1 : Int32) (v2 : Int32) : Int32 := if (mHas jg v0) = true then (if 0 ≤ v1 ∧ v1 ≤ 1 then (if (nI (nC v1)) = 0 then (if 0 ≤ v2 ∧ v2 ≤ 20 then fso (nC v0) else -7) else (if 0 ≤ v2 ∧ v2 ≤ 999 then fmi (nC v0) else -7)) else -7) else -5
noncomputable def m_X5_shoe_n2 (jg : Nat) (fso : Nat → Int32) (v0 : Int32) (v1 : Int32) (v2 : Int32) : Nat → Int32 := if (mHas jg v0) = true then (if 0 ≤ v1 ∧ v1 ≤ 1 then (if (nI (nC v1)) = 0 then (if 0 ≤ v2 ∧ v2 ≤ 20 then upd fso (nC v0) (nI (nC v2)) else fso) else fso) else fso) else fso
noncomputable def m_X5_shoe_n3 (jg : Nat) (fmi : Nat → Int32) (v0 : Int32) (v1 : Int32) (v2 : Int32) : Nat → Int32 := if (mHas jg v0) = true then (if 0 ≤ v1 ∧ v1 ≤ 1 then (if (nI (nC v1)) = 0 then fmi else (if 0 ≤ v2 ∧ v2 ≤ 999 then upd fmi (nC v0) (nI (nC v2)) else fmi)) else fmi) else fmi
abbrev q_X5_shoe (G : gG) (h0 tt rd nw th kp sh tu n1 n2 n3 n4 n5 n6 n7 n8 : Nat) (jg : Nat) (pb : Nat) (lw : Nat) (him : Int32) (fso : Nat → Int32) (fmi : Nat → Int32) (v0 : Int32) (v1 : Int32) (v2 : Int32) (A : Nat → Prop) : Array Value → State → Outcome → State → Prop := va_Qi (fun (r : Int32) (u : Unit) => match u with | _ => r = m_X5_shoe jg fso fmi v0 v1 v2) (fun (u : Unit) t => match u with | _ => va_P G.1 vwCl [zo5 h0 tt rd nw th kp sh tu him, zo0 nw tt n1 n2 n3 n4 n5 n6 n7 n8 (nI jg) (nI pb) (nI lw), zi G n2 4 (m_X5_shoe_n2 jg fso v0 v1 v2), zi G n3 4 (m_X5_shoe_n3 jg fmi v0 v1 v2)] t.heap ∧ gK G t ∧ va_D A [zo5 h0 tt rd nw th kp sh tu him, zo0 nw tt n1 n2 n3 n4 n5 n6 n7 n8 (nI jg) (nI pb) (nI lw), zi G n2 4 (m_X5_shoe_n2 jg fso v0 v1 v2), zi G n3 4 (m_X5_shoe_n3 jg fmi v0 v1 v2)]) A
set_option maxHeartbeats 4000000 in
set_option maxRecDepth 100000 in
theorem c_X5_shoe (l : Launch) (G : gG) (h0 tt rd nw th kp sh tu n1 n2 n3 n4 n5 n6 n7 n8 : Nat) (jg : Nat) (pb : Nat) (lw : Nat) (him : Int32) (fso : Nat → Int32) (fmi : Nat → Int32) (v0 : Int32) (v1 : Int32) (v2 : Int32) (sz : Nat) (hjg : jg ≤ 4) (hpb : pb ≤ 6) : Met l yX5_shoe wsX5_shoe ({ frames := 1, cells := 0, slots := 0, locals := 21 }) (gPre G [.ref h0, .int v0, .int v1, .int v2] [zo5 h0 tt rd nw th kp sh tu him, zo0 nw tt n1 n2 n3 n4 n5 n6 n7 n8 (nI jg) (nI pb) (nI lw), zi G n2 4 fso, zi G n3 4 fmi] sz) (q_X5_shoe G h0 tt rd nw th kp sh tu n1 n2 n3 n4 n5 n6 n7 n8 jg pb lw him fso fmi v0 v1 v2 (va_A [zo5 h0 tt rd nw th kp sh tu him, zo0 nw tt n1 n2 n3 n4 n5 n6 n7 n8 (nI jg) (nI pb) (nI lw), zi G n2 4 fso, zi G n3 4 fmi] sz)) 0 0 (va_A [zo5 h0 tt rd nw th kp sh tu him, zo0 nw tt n1 n2 n3 n4 n5 n6 n7 n8 (nI jg) (nI pb) (nI lw), zi G n2 4 fso, zi G n3 4 fmi] sz) := by
  refine Met.ofW (cc := cX5_shoe) (maxL := 6) (ret := (some .int)) (by decide +kernel) rfl ?_
  intro p e s m args below meth c s₁ B hml hv
  obtain ⟨rfl, hsz, hP, hK, hD0⟩ := hv
  have hx := B.exec
  have hb := B.bytes
  have hr := B.returns
  have hts := atoms_spec (ws := wsX5_shoe) B.pre
  have hown : s.vm.findClass RX5 = some m.cls := findClass_of_methodNamed B.named
  have hlocks := B.notSynchronized
  subst hsz
  have hD := hD0.self (sz := s.heap.size)
  generalize hAe : va_A [zo5 h0 tt rd nw th kp sh tu him, zo0 nw tt n1 n2 n3 n4 n5 n6 n7 n8 (nI jg) (nI pb) (nI lw), zi G n2 4 fso, zi G n3 4 fmi] s.heap.size = A at hD ⊢
  have hA : ∀ q : Nat, s.heap.size ≤ q → A q := fun q h => by rw [← hAe]; exact Or.inr h
  have hS : va_S A s.heap s.heap [] := va_S.rf
  have hz9 : gPD G A [zo5 h0 tt rd nw th kp sh tu him, zo0 nw tt n1 n2 n3 n4 n5 n6 n7 n8 (nI jg) (nI pb) (nI lw), zi G n2 4 fso, zi G n3 4 fmi] s.heap := ⟨hP, hD⟩
  have hP := hz9.1
  have hD := hz9.2
  have hl := lv_entry ([.ref h0, .int v0, .int v1, .int v2]) (n := 6) (Nat.le_of_ble_eq_true rfl)
  rw [lg_entry_eq]
  generalize (lg_sl ([.ref h0, .int v0, .int v1, .int v2]) ++ List.replicate (6 - (lg_sl ([.ref h0, .int v0, .int v1, .int v2])).length) Slot.unset).toArray = ls at hl ⊢
  have hl : lv_has ls 6 [zR 0 h0, zI 1 v0, zI 2 v1, zI 3 v2] := hl
  have kf28 := hts (.fieldLink RX5 28 "PebbleInShoe" "now" "LPebbleInShoe$Court;") (by decide +kernel)
  have hiX5 := (by decide +kernel : ∀ w ∈ wsX50, w ∈ wsX5_shoe)
  have kf102 := hts (.fieldLink RX5 102 "PebbleInShoe$Court" "miles" "[I") (by decide +kernel)
  have hiX0 := (by decide +kernel : ∀ w ∈ wsX00, w ∈ wsX5_shoe)
  have kf98 := hts (.fieldLink RX5 98 "PebbleInShoe$Court" "soles" "[I") (by decide +kernel)
  refine g_aget (D := G.1) (ci := 5) (v := .ref nw) (C := RX5) (T := TX5) (N := 8) hx hb dX5_shoe_0 rfl (lv_at hl 0 rfl) hts hiX5 hown hK hP 0 rfl rfl 2 (by decide +kernel) kf28 (fun _ h9 => h9) rfl dX5_shoe_1 ?_
  refine lv_iload_n hx hb dX5_shoe_4 rfl (lv_at hl 1 rfl) ?_
  refine z_calli [1] (v := bz (mHas jg v0)) (fun _ _ h => h) (va_runV (As := [.int v0]) (rest := []) ⟨hx, hb, hml, hown, hts⟩ (c_X0_hasJudge_g l G nw tt n1 n2 n3 n4 n5 n6 n7 n8 jg pb lw v0 s.heap.size (by first | exact hjg | assumption | omega) (by first | exact hpb | assumption | omega)) (cwV 1 hts gX5_shoe_X0_hasJudge rfl rfl rfl (by decide +kernel) ⟨Nat.le_of_ble_eq_true rfl, Nat.le_of_ble_eq_true rfl⟩) ⟨gPre_blind, va_recv (q := (RX0, TX0, 12)) hK hP (ci := 0) (q0 := 1) rfl rfl, fun U hU hW => gPre_ofF [1] hU hW hK hP hD (by decide +kernel) rfl⟩ rfl rfl hl.1 rfl (lv_room (Nat.le_of_ble_eq_true rfl)) dX5_shoe_5 ⟨Nat.le_of_ble_eq_true rfl, Nat.le_of_ble_eq_true rfl⟩) hS hD hA rfl (fun u t H locs ht hvm hB hz1 hk1 hFq hAq hS => ?_)
  obtain ⟨hP1, hK1, hD1⟩ := hB
  have hP := zKeep hP hD [1] hAq hk1 ht hP1 rfl
  refine lv_if_ne (tgt := 14) hx hb dX5_shoe_8 (by decide +kernel) (fun c_3 => ?_) (fun c_3 => ?_)
  · skip
    have p_4 : (mHas jg v0) = true := bz_ne rfl c_3
    have hv_6 : v0 = nI (nC v0) := mHas_eq p_4
    have hk_7 : nC v0 < jg := mHas_lt (by omega) p_4
    refine lv_iload_n hx hb dX5_shoe_14 rfl (lv_at hl 2 rfl) ?_
    refine lv_iconst (v := 1) hx hb dX5_shoe_15 (by decide +kernel) ?_
    refine z_calli [] (v := bz (decide (0 ≤ v1 ∧ v1 ≤ 1))) (fun _ _ h => h) (va_runS (As := [.int v1, .int 1]) (rest := []) ⟨hx, hb, hml, hown, hts⟩ (c_X5_within_g l G v1 1 H.size) (va_cwS 2 hts gX5_shoe_X5_within rfl rfl rfl (by decide +kernel) ⟨Nat.le_of_ble_eq_true rfl, Nat.le_of_ble_eq_true rfl⟩) ⟨gPre_blind, fun U hU hW => gPre_ofF [] hU hW hK hP hD (by decide +kernel) rfl⟩ rfl rfl hl.1 rfl (lv_room (Nat.le_of_ble_eq_true rfl)) dX5_shoe_16 ⟨Nat.le_of_ble_eq_true rfl, Nat.le_of_ble_eq_true rfl⟩) hS hD hA rfl (fun u t H locs ht hvm hB hz1 hk1 hFq hAq hS => ?_)
    obtain ⟨hP1, hK1, hD1⟩ := hB
    have hP := zKeep hP hD [] hAq hk1 ht hP1 rfl
    refine lv_if_eq (tgt := 41) hx hb dX5_shoe_19 (by decide +kernel) (fun c_10 => ?_) (fun c_10 => ?_)
    · skip
      have n_12 : ¬ (0 ≤ v1 ∧ v1 ≤ 1) := of_decide_eq_false (bz_eq rfl c_10)
      refine lv_bipush (v := -7) hx hb dX5_shoe_41 (by decide +kernel) ?_
      have q_15 : m_X5_shoe_n2 jg fso v0 v1 v2 = fso := by unfold m_X5_shoe_n2; rw [if_pos p_4, if_neg n_12]
      have q_16 : m_X5_shoe_n3 jg fmi v0 v1 v2 = fmi := by unfold m_X5_shoe_n3; rw [if_pos p_4, if_neg n_12]
      have hz9 : gPD G A [zo5 h0 tt rd nw th kp sh tu him, zo0 nw tt n1 n2 n3 n4 n5 n6 n7 n8 (nI jg) (nI pb) (nI lw), zi G n2 4 (m_X5_shoe_n2 jg fso v0 v1 v2), zi G n3 4 (m_X5_shoe_n3 jg fmi v0 v1 v2)] H := ⟨by rw [q_15, q_16]; exact hP, by rw [q_15, q_16]; exact hD⟩
      have hP9 := hz9.1
      have hD9 := hz9.2
      have hpost : (fun (r : Int32) (u : Unit) => match u with | _ => r = m_X5_shoe jg fso fmi v0 v1 v2) (-7) () := (show m_X5_shoe jg fso fmi v0 v1 v2 = (-7) from by unfold m_X5_shoe; rw [if_pos p_4, if_neg n_12]).symm
      exact W.iret (v := (-7)) hx hb hr (fun t ht hW => ⟨⟨(-7), (), rfl, hpost, by rw [ht]; exact hP9, va_K.moved hW.alike hK, hD9⟩, hS.F ht⟩) hS.2.2 dX5_shoe_43
    · skip
      have p_11 : 0 ≤ v1 ∧ v1 ≤ 1 := of_decide_eq_true (bz_ne rfl c_10)
      have hv_13 : v1 = nI (nC v1) := nC_eq p_11.1
      have hk_14 : nC v1 ≤ 1 := nC_le (n := 1) (by omega) p_11
      refine lv_iload_n hx hb dX5_shoe_22 rfl (lv_at hl 3 rfl) ?_
      refine lv_iload_n hx hb dX5_shoe_23 rfl (lv_at hl 2 rfl) ?_
      refine g_topi (y := nI (nC v1)) hv_13 ?_
      refine lv_if_ne (tgt := 32) hx hb dX5_shoe_24 (by decide +kernel) (fun c_18 => ?_) (fun c_18 => ?_)
      · skip
        have c_18N : ¬ (nC v1) = 0 := nI_eq0 (a := (nC v1)) (b := 0) (by omega) (by omega) c_18
        refine lv_sipush (v := 999) hx hb dX5_shoe_32 (by decide +kernel) ?_
        refine z_calli [] (v := bz (decide (0 ≤ v2 ∧ v2 ≤ 999))) (fun _ _ h => h) (va_runS (As := [.int v2, .int 999]) (rest := []) ⟨hx, hb, hml, hown, hts⟩ (c_X5_within_g l G v2 999 H.size) (va_cwS 2 hts gX5_shoe_X5_within rfl rfl rfl (by decide +kernel) ⟨Nat.le_of_ble_eq_true rfl, Nat.le_of_ble_eq_true rfl⟩) ⟨gPre_blind, fun U hU hW => gPre_ofF [] hU hW hK hP hD (by decide +kernel) rfl⟩ rfl rfl hl.1 rfl (lv_room (Nat.le_of_ble_eq_true rfl)) dX5_shoe_35 ⟨Nat.le_of_ble_eq_true rfl, Nat.le_of_ble_eq_true rfl⟩) hS hD hA rfl (fun u t H locs ht hvm hB hz1 hk1 hFq hAq hS => ?_)
        obtain ⟨hP1, hK1, hD1⟩ := hB
        have hP := zKeep hP hD [] hAq hk1 ht hP1 rfl
        refine lv_if_ne (tgt := 44) hx hb dX5_shoe_38 (by decide +kernel) (fun c_21 => ?_) (fun c_21 => ?_)
        · skip
          have p_22 : 0 ≤ v2 ∧ v2 ≤ 999 := of_decide_eq_true (bz_ne rfl c_21)
          have hv_24 : v2 = nI (nC v2) := nC_eq p_22.1
          have hk_25 : nC v2 ≤ 999 := nC_le (n := 999) (by omega) p_22
          refine lv_iload_n hx hb dX5_shoe_44 rfl (lv_at hl 2 rfl) ?_
          refine g_topi (y := nI (nC v1)) hv_13 ?_
          refine lv_if_ne (tgt := 58) hx hb dX5_shoe_45 (by decide +kernel) (fun c_27 => ?_) (fun c_27 => ?_)
          rotate_left
          · exact absurd c_27 (c_18)
          refine g_aget (D := G.1) (ci := 5) (v := .ref nw) (C := RX5) (T := TX5) (N := 8) hx hb dX5_shoe_58 rfl (lv_at hl 0 rfl) hts hiX5 hown hK hP 0 rfl rfl 2 (by decide +kernel) kf28 (fun _ h9 => h9) rfl dX5_shoe_59 ?_
          refine va_get (D := G.1) (ci := 0) (v := .ref n3) (C := RX0) (T := TX0) (N := 12) hx hb hts hiX0 hown hK hP 1 rfl rfl 3 (by decide +kernel) kf102 (fun _ h9 => h9) rfl dX5_shoe_62 ?_
          refine lv_astore (lv' := [zR 4 n3, zR 0 h0, zI 1 v0, zI 2 v1, zI 3 v2]) hx hb dX5_shoe_65 hl (by decide +kernel) rfl (fun ls hl => ?_)
          refine lv_aload hx hb dX5_shoe_67 (lv_at hl 0 rfl) ?_
          refine lv_iload_n hx hb dX5_shoe_69 rfl (lv_at hl 2 rfl) ?_
          refine g_topi (y := nI (nC v0)) hv_6 ?_
          refine g_iald (D := G.1) hx hb hK hP 3 0 rfl rfl (k := nC v0) (y := fmi (nC v0)) (by omega) rfl rfl dX5_shoe_70 ?_
          refine lv_istore (lv' := [zI 5 (fmi (nC v0)), zR 4 n3, zR 0 h0, zI 1 v0, zI 2 v1, zI 3 v2]) hx hb dX5_shoe_71 hl (by decide +kernel) rfl (fun ls hl => ?_)
          refine lv_aload hx hb dX5_shoe_73 (lv_at hl 1 rfl) ?_
          refine lv_iload_n hx hb dX5_shoe_75 rfl (lv_at hl 3 rfl) ?_
          refine g_topi (y := nI (nC v0)) hv_6 ?_
          refine lv_iload_n hx hb dX5_shoe_76 rfl (lv_at hl 5 rfl) ?_
          refine g_topi (y := nI (nC v2)) hv_24 ?_
          refine g_iast (D := G.1) hx hb hK hP hD hS 3 0 rfl rfl (k := nC v0) (x := (nI (nC v2))) (by omega) rfl dX5_shoe_77 (fun H locs hP hD hS => ?_)
          have hz9 : gPD G A [zo5 h0 tt rd nw th kp sh tu him, zo0 nw tt n1 n2 n3 n4 n5 n6 n7 n8 (nI jg) (nI pb) (nI lw), zi G n2 4 fso, zi G n3 4 (upd fmi (nC v0) (nI (nC v2)))] H := ⟨hP, hD⟩
          have hP := hz9.1
          have hD := hz9.2
          refine lv_iload hx hb dX5_shoe_78 (lv_at hl 0 rfl) ?_
          have q_32 : m_X5_shoe_n2 jg fso v0 v1 v2 = fso := by unfold m_X5_shoe_n2; rw [if_pos p_4, if_pos p_11, if_neg c_18]
          have q_33 : m_X5_shoe_n3 jg fmi v0 v1 v2 = upd fmi (nC v0) (nI (nC v2)) := by unfold m_X5_shoe_n3; rw [if_pos p_4, if_pos p_11, if_neg c_18, if_pos p_22]
          have hz9 : gPD G A [zo5 h0 tt rd nw th kp sh tu him, zo0 nw tt n1 n2 n3 n4 n5 n6 n7 n8 (nI jg) (nI pb) (nI lw), zi G n2 4 (m_X5_shoe_n2 jg fso v0 v1 v2), zi G n3 4 (m_X5_shoe_n3 jg fmi v0 v1 v2)] H := ⟨by rw [q_32, q_33]; exact hP, by rw [q_32, q_33]; exact hD⟩
          have hP9 := hz9.1
          have hD9 := hz9.2
          have hpost : (fun (r : Int32) (u : Unit) => match u with | _ => r = m_X5_shoe jg fso fmi v0 v1 v2) (fmi (nC v0)) () := (show m_X5_shoe jg fso fmi v0 v1 v2 = (fmi (nC v0)) from by unfold m_X5_shoe; rw [if_pos p_4, if_pos p_11, if_neg c_18, if_pos p_22]).symm
          exact W.iret (v := (fmi (nC v0))) hx hb hr (fun t ht hW => ⟨⟨(fmi (nC v0)), (), rfl, hpost, by rw [ht]; exact hP9, va_K.moved hW.alike hK, hD9⟩, hS.F ht⟩) hS.2.2 dX5_shoe_80
        · skip
          have n_23 : ¬ (0 ≤ v2 ∧ v2 ≤ 999) := of_decide_eq_false (bz_eq rfl c_21)
          refine lv_bipush (v := -7) hx hb dX5_shoe_41 (by decide +kernel) ?_
          have q_34 : m_X5_shoe_n2 jg fso v0 v1 v2 = fso := by unfold m_X5_shoe_n2; rw [if_pos p_4, if_pos p_11, if_neg c_18]
          have q_35 : m_X5_shoe_n3 jg fmi v0 v1 v2 = fmi := by unfold m_X5_shoe_n3; rw [if_pos p_4, if_pos p_11, if_neg c_18, if_neg n_23]
          have hz9 : gPD G A [zo5 h0 tt rd nw th kp sh tu him, zo0 nw tt n1 n2 n3 n4 n5 n6 n7 n8 (nI jg) (nI pb) (nI lw), zi G n2 4 (m_X5_shoe_n2 jg fso v0 v1 v2), zi G n3 4 (m_X5_shoe_n3 jg fmi v0 v1 v2)] H := ⟨by rw [q_34, q_35]; exact hP, by rw [q_34, q_35]; exact hD⟩
          have hP9 := hz9.1
          have hD9 := hz9.2
          have hpost : (fun (r : Int32) (u : Unit) => match u with | _ => r = m_X5_shoe jg fso fmi v0 v1 v2) (-7) () := (show m_X5_shoe jg fso fmi v0 v1 v2 = (-7) from by unfold m_X5_shoe; rw [if_pos p_4, if_pos p_11, if_neg c_18, if_neg n_23]).symm
          exact W.iret (v := (-7)) hx hb hr (fun t ht hW => ⟨⟨(-7), (), rfl, hpost, by rw [ht]; exact hP9, va_K.moved hW.alike hK, hD9⟩, hS.F ht⟩) hS.2.2 dX5_shoe_43
      · skip
        have c_18N : (nC v1) = 0 := nI_eq1 (a := (nC v1)) (b := 0) (by omega) (by omega) c_18
        refine lv_bipush (v := 20) hx hb dX5_shoe_27 (by decide +kernel) ?_
        refine lv_goto (tgt := 35) hx hb dX5_shoe_29 (by decide +kernel) ?_
        refine z_calli [] (v := bz (decide (0 ≤ v2 ∧ v2 ≤ 20))) (fun _ _ h => h) (va_runS (As := [.int v2, .int 20]) (rest := []) ⟨hx, hb, hml, hown, hts⟩ (c_X5_within_g l G v2 20 H.size) (va_cwS 2 hts gX5_shoe_X5_within rfl rfl rfl (by decide +kernel) ⟨Nat.le_of_ble_eq_true rfl, Nat.le_of_ble_eq_true rfl⟩) ⟨gPre_blind, fun U hU hW => gPre_ofF [] hU hW hK hP hD (by decide +kernel) rfl⟩ rfl rfl hl.1 rfl (lv_room (Nat.le_of_ble_eq_true rfl)) dX5_shoe_35 ⟨Nat.le_of_ble_eq_true rfl, Nat.le_of_ble_eq_true rfl⟩) hS hD hA rfl (fun u t H locs ht hvm hB hz1 hk1 hFq hAq hS => ?_)
        obtain ⟨hP1, hK1, hD1⟩ := hB
        have hP := zKeep hP hD [] hAq hk1 ht hP1 rfl
        refine lv_if_ne (tgt := 44) hx hb dX5_shoe_38 (by decide +kernel) (fun c_38 => ?_) (fun c_38 => ?_)
        · skip
          have p_39 : 0 ≤ v2 ∧ v2 ≤ 20 := of_decide_eq_true (bz_ne rfl c_38)
          have hv_41 : v2 = nI (nC v2) := nC_eq p_39.1
          have hk_42 : nC v2 ≤ 20 := nC_le (n := 20) (by omega) p_39
          refine lv_iload_n hx hb dX5_shoe_44 rfl (lv_at hl 2 rfl) ?_
          refine g_topi (y := nI (nC v1)) hv_13 ?_
          refine lv_if_ne (tgt := 58) hx hb dX5_shoe_45 (by decide +kernel) (fun c_44 => ?_) (fun c_44 => ?_)
          · exact absurd (c_18) c_44
          refine g_aget (D := G.1) (ci := 5) (v := .ref nw) (C := RX5) (T := TX5) (N := 8) hx hb dX5_shoe_48 rfl (lv_at hl 0 rfl) hts hiX5 hown hK hP 0 rfl rfl 2 (by decide +kernel) kf28 (fun _ h9 => h9) rfl dX5_shoe_49 ?_
          refine va_get (D := G.1) (ci := 0) (v := .ref n2) (C := RX0) (T := TX0) (N := 12) hx hb hts hiX0 hown hK hP 1 rfl rfl 2 (by decide +kernel) kf98 (fun _ h9 => h9) rfl dX5_shoe_52 ?_
          refine lv_goto (tgt := 65) hx hb dX5_shoe_55 (by decide +kernel) ?_
          refine lv_astore (lv' := [zR 4 n2, zR 0 h0, zI 1 v0, zI 2 v1, zI 3 v2]) hx hb dX5_shoe_65 hl (by decide +kernel) rfl (fun ls hl => ?_)
          refine lv_aload hx hb dX5_shoe_67 (lv_at hl 0 rfl) ?_
          refine lv_iload_n hx hb dX5_shoe_69 rfl (lv_at hl 2 rfl) ?_
          refine g_topi (y := nI (nC v0)) hv_6 ?_
          refine g_iald (D := G.1) hx hb hK hP 2 0 rfl rfl (k := nC v0) (y := fso (nC v0)) (by omega) rfl rfl dX5_shoe_70 ?_
          refine lv_istore (lv' := [zI 5 (fso (nC v0)), zR 4 n2, zR 0 h0, zI 1 v0, zI 2 v1, zI 3 v2]) hx hb dX5_shoe_71 hl (by decide +kernel) rfl (fun ls hl => ?_)
          refine lv_aload hx hb dX5_shoe_73 (lv_at hl 1 rfl) ?_
          refine lv_iload_n hx hb dX5_shoe_75 rfl (lv_at hl 3 rfl) ?_
          refine g_topi (y := nI (nC v0)) hv_6 ?_
          refine lv_iload_n hx hb dX5_shoe_76 rfl (lv_at hl 5 rfl) ?_
          refine g_topi (y := nI (nC v2)) hv_41 ?_
          refine g_iast (D := G.1) hx hb hK hP hD hS 2 0 rfl rfl (k := nC v0) (x := (nI (nC v2))) (by omega) rfl dX5_shoe_77 (fun H locs hP hD hS => ?_)
          have hz9 : gPD G A [zo5 h0 tt rd nw th kp sh tu him, zo0 nw tt n1 n2 n3 n4 n5 n6 n7 n8 (nI jg) (nI pb) (nI lw), zi G n2 4 (upd fso (nC v0) (nI (nC v2))), zi G n3 4 fmi] H := ⟨hP, hD⟩
          have hP := hz9.1
          have hD := hz9.2
          refine lv_iload hx hb dX5_shoe_78 (lv_at hl 0 rfl) ?_
          have q_49 : m_X5_shoe_n2 jg fso v0 v1 v2 = upd fso (nC v0) (nI (nC v2)) := by unfold m_X5_shoe_n2; rw [if_pos p_4, if_pos p_11, if_pos c_18, if_pos p_39]
          have q_50 : m_X5_shoe_n3 jg fmi v0 v1 v2 = fmi := by unfold m_X5_shoe_n3; rw [if_pos p_4, if_pos p_11, if_pos c_18]
          have hz9 : gPD G A [zo5 h0 tt rd nw th kp sh tu him, zo0 nw tt n1 n2 n3 n4 n5 n6 n7 n8 (nI jg) (nI pb) (nI lw), zi G n2 4 (m_X5_shoe_n2 jg fso v0 v1 v2), zi G n3 4 (m_X5_shoe_n3 jg fmi v0 v1 v2)] H := ⟨by rw [q_49, q_50]; exact hP, by rw [q_49, q_50]; exact hD⟩
          have hP9 := hz9.1
          have hD9 := hz9.2
          have hpost : (fun (r : Int32) (u : Unit) => match u with | _ => r = m_X5_shoe jg fso fmi v0 v1 v2) (fso (nC v0)) () := (show m_X5_shoe jg fso fmi v0 v1 v2 = (fso (nC v0)) from by unfold m_X5_shoe; rw [if_pos p_4, if_pos p_11, if_pos c_18, if_pos p_39]).symm
          exact W.iret (v := (fso (nC v0))) hx hb hr (fun t ht hW => ⟨⟨(fso (nC v0)), (), rfl, hpost, by rw [ht]; exact hP9, va_K.moved hW.alike hK, hD9⟩, hS.F ht⟩) hS.2.2 dX5_shoe_80
        · skip
          have n_40 : ¬ (0 ≤ v2 ∧ v2 ≤ 20) := of_decide_eq_false (bz_eq rfl c_38)
          refine lv_bipush (v := -7) hx hb dX5_shoe_41 (by decide +kernel) ?_
          have q_51 : m_X5_shoe_n2 jg fso v0 v1 v2 = fso := by unfold m_X5_shoe_n2; rw [if_pos p_4, if_pos p_11, if_pos c_18, if_neg n_40]
          have q_52 : m_X5_shoe_n3 jg fmi v0 v1 v2 = fmi := by unfold m_X5_shoe_n3; rw [if_pos p_4, if_pos p_11, if_pos c_18]
          have hz9 : gPD G A [zo5 h0 tt rd nw th kp sh tu him, zo0 nw tt n1 n2 n3 n4 n5 n6 n7 n8 (nI jg) (nI pb) (nI lw), zi G n2 4 (m_X5_shoe_n2 jg fso v0 v1 v2), zi G n3 4 (m_X5_shoe_n3 jg fmi v0 v1 v2)] H := ⟨by rw [q_51, q_52]; exact hP, by rw [q_51, q_52]; exact hD⟩
          have hP9 := hz9.1
          have hD9 := hz9.2
          have hpost : (fun (r : Int32) (u : Unit) => match u with | _ => r = m_X5_shoe jg fso fmi v0 v1 v2) (-7) () := (show m_X5_shoe jg fso fmi v0 v1 v2 = (-7) from by unfold m_X5_shoe; rw [if_pos p_4, if_pos p_11, if_pos c_18, if_neg n_40]).symm
          exact W.iret (v := (-7)) hx hb hr (fun t ht hW => ⟨⟨(-7), (), rfl, hpost, by rw [ht]; exact hP9, va_K.moved hW.alike hK, hD9⟩, hS.F ht⟩) hS.2.2 dX5_shoe_43
  · skip
    have n_5 : (mHas jg v0) = false := bz_eq rfl c_3
    have n_5N : ¬ ((mHas jg v0) = true) := by rw [n_5]; decide
    refine lv_bipush (v := -5) hx hb dX5_shoe_11 (by decide +kernel) ?_
    have q_53 : m_X5_shoe_n2 jg fso v0 v1 v2 = fso := by unfold m_X5_shoe_n2; rw [if_neg n_5N]
    have q_54 : m_X5_shoe_n3 jg fmi v0 v1 v2 = fmi := by unfold m_X5_shoe_n3; rw [if_neg n_5N]
    have hz9 : gPD G A [zo5 h0 tt rd nw th kp sh tu him, zo0 nw tt n1 n2 n3 n4 n5 n6 n7 n8 (nI jg) (nI pb) (nI lw), zi G n2 4 (m_X5_shoe_n2 jg fso v0 v1 v2), zi G n3 4 (m_X5_shoe_n3 jg fmi v0 v1 v2)] H := ⟨by rw [q_53, q_54]; exact hP, by rw [q_53, q_54]; exact hD⟩
    have hP9 := hz9.1
    have hD9 := hz9.2
    have hpost : (fun (r : Int32) (u : Unit) => match u with | _ => r = m_X5_shoe jg fso fmi v0 v1 v2) (-5) () := (show m_X5_shoe jg fso fmi v0 v1 v2 = (-5) from by unfold m_X5_shoe; rw [if_neg n_5N]).symm
    exact W.iret (v := (-5)) hx hb hr (fun t ht hW => ⟨⟨(-5), (), rfl, hpost, by rw [ht]; exact hP9, va_K.moved hW.alike hK, hD9⟩, hS.F ht⟩) hS.2.2 dX5_shoe_13
noncomputable def m_X5_bench (jg : Nat) (fso : Nat → Int32) (fmi : Nat → Int32) (fpa : Nat → Int32) (v0 : Int32) (v1 : Int32) : Int32 := if (mHas jg v0) = true then (if v1 = 0 then fso (nC v0) else (if v1 = 1 then fmi (nC v0) else (if v1 = 2 then fpa (nC v0) else -7))) else -5
abbrev q_X5_bench (G : gG) (h0 tt rd nw th kp sh tu n1 n2 n3 n4 n5 n6 n7 n8 : Nat) (jg : Nat) (pb : Nat) (lw : Nat) (him : Int32) (fso : Nat → Int32) (fmi : Nat → Int32) (fpa : Nat → Int32) (v0 : Int32) (v1 : Int32) (A : Nat → Prop) : Array Value → State → Outcome → State → Prop := va_Qi (fun (r : Int32) (u : Unit) => match u with | _ => r = m_X5_bench jg fso fmi fpa v0 v1) (fun (u : Unit) t => match u with | _ => va_P G.1 vwCl [zo5 h0 tt rd nw th kp sh tu him, zo0 nw tt n1 n2 n3 n4 n5 n6 n7 n8 (nI jg) (nI pb) (nI lw), zi G n2 4 fso, zi G n3 4 fmi, zi G n4 4 fpa] t.heap ∧ gK G t ∧ va_D A [zo5 h0 tt rd nw th kp sh tu him, zo0 nw tt n1 n2 n3 n4 n5 n6 n7 n8 (nI jg) (nI pb) (nI lw), zi G n2 4 fso, zi G n3 4 fmi, zi G n4 4 fpa]) A
set_option maxHeartbeats 4000000 in
set_option maxRecDepth 100000 in
theorem c_X5_bench (l : Launch) (G : gG) (h0 tt rd nw th kp sh tu n1 n2 n3 n4 n5 n6 n7 n8 : Nat) (jg : Nat) (pb : Nat) (lw : Nat) (him : Int32) (fso : Nat → Int32) (fmi : Nat → Int32) (fpa : Nat → Int32) (v0 : Int32) (v1 : Int32) (sz : Nat) (hjg : jg ≤ 4) (hpb : pb ≤ 6) : Met l yX5_bench wsX5_bench ({ frames := 1, cells := 0, slots := 0, locals := 21 }) (gPre G [.ref h0, .int v0, .int v1] [zo5 h0 tt rd nw th kp sh tu him, zo0 nw tt n1 n2 n3 n4 n5 n6 n7 n8 (nI jg) (nI pb) (nI lw), zi G n2 4 fso, zi G n3 4 fmi, zi G n4 4 fpa] sz) (q_X5_bench G h0 tt rd nw th kp sh tu n1 n2 n3 n4 n5 n6 n7 n8 jg pb lw him fso fmi fpa v0 v1 (va_A [zo5 h0 tt rd nw th kp sh tu him, zo0 nw tt n1 n2 n3 n4 n5 n6 n7 n8 (nI jg) (nI pb) (nI lw), zi G n2 4 fso, zi G n3 4 fmi, zi G n4 4 fpa] sz)) 0 0 (va_A [zo5 h0 tt rd nw th kp sh tu him, zo0 nw tt n1 n2 n3 n4 n5 n6 n7 n8 (nI jg) (nI pb) (nI lw), zi G n2 4 fso, zi G n3 4 fmi, zi G n4 4 fpa] sz) := by
  refine Met.ofW (cc := cX5_bench) (maxL := 3) (ret := (some .int)) (by decide +kernel) rfl ?_
  intro p e s m args below meth c s₁ B hml hv
  obtain ⟨rfl, hsz, hP, hK, hD0⟩ := hv
  have hx := B.exec
  have hb := B.bytes
  have hr := B.returns
  have hts := atoms_spec (ws := wsX5_bench) B.pre
  have hown : s.vm.findClass RX5 = some m.cls := findClass_of_methodNamed B.named
  have hlocks := B.notSynchronized
  subst hsz
  have hD := hD0.self (sz := s.heap.size)
  generalize hAe : va_A [zo5 h0 tt rd nw th kp sh tu him, zo0 nw tt n1 n2 n3 n4 n5 n6 n7 n8 (nI jg) (nI pb) (nI lw), zi G n2 4 fso, zi G n3 4 fmi, zi G n4 4 fpa] s.heap.size = A at hD ⊢
  have hA : ∀ q : Nat, s.heap.size ≤ q → A q := fun q h => by rw [← hAe]; exact Or.inr h
  have hS : va_S A s.heap s.heap [] := va_S.rf
  have hz9 : gPD G A [zo5 h0 tt rd nw th kp sh tu him, zo0 nw tt n1 n2 n3 n4 n5 n6 n7 n8 (nI jg) (nI pb) (nI lw), zi G n2 4 fso, zi G n3 4 fmi, zi G n4 4 fpa] s.heap := ⟨hP, hD⟩
  have hP := hz9.1
  have hD := hz9.2
  have hl := lv_entry ([.ref h0, .int v0, .int v1]) (n := 3) (Nat.le_of_ble_eq_true rfl)
  rw [lg_entry_eq]
  generalize (lg_sl ([.ref h0, .int v0, .int v1]) ++ List.replicate (3 - (lg_sl ([.ref h0, .int v0, .int v1])).length) Slot.unset).toArray = ls at hl ⊢
  have hl : lv_has ls 3 [zR 0 h0, zI 1 v0, zI 2 v1] := hl
  have kf28 := hts (.fieldLink RX5 28 "PebbleInShoe" "now" "LPebbleInShoe$Court;") (by decide +kernel)
  have hiX5 := (by decide +kernel : ∀ w ∈ wsX50, w ∈ wsX5_bench)
  have kf98 := hts (.fieldLink RX5 98 "PebbleInShoe$Court" "soles" "[I") (by decide +kernel)
  have hiX0 := (by decide +kernel : ∀ w ∈ wsX00, w ∈ wsX5_bench)
  have kf102 := hts (.fieldLink RX5 102 "PebbleInShoe$Court" "miles" "[I") (by decide +kernel)
  have kf105 := hts (.fieldLink RX5 105 "PebbleInShoe$Court" "pains" "[I") (by decide +kernel)
  refine g_aget (D := G.1) (ci := 5) (v := .ref nw) (C := RX5) (T := TX5) (N := 8) hx hb dX5_bench_0 rfl (lv_at hl 0 rfl) hts hiX5 hown hK hP 0 rfl rfl 2 (by decide +kernel) kf28 (fun _ h9 => h9) rfl dX5_bench_1 ?_
  refine lv_iload_n hx hb dX5_bench_4 rfl (lv_at hl 1 rfl) ?_
  refine z_calli [1] (v := bz (mHas jg v0)) (fun _ _ h => h) (va_runV (As := [.int v0]) (rest := []) ⟨hx, hb, hml, hown, hts⟩ (c_X0_hasJudge_g l G nw tt n1 n2 n3 n4 n5 n6 n7 n8 jg pb lw v0 s.heap.size (by first | exact hjg | assumption | omega) (by first | exact hpb | assumption | omega)) (cwV 1 hts gX5_bench_X0_hasJudge rfl rfl rfl (by decide +kernel) ⟨Nat.le_of_ble_eq_true rfl, Nat.le_of_ble_eq_true rfl⟩) ⟨gPre_blind, va_recv (q := (RX0, TX0, 12)) hK hP (ci := 0) (q0 := 1) rfl rfl, fun U hU hW => gPre_ofF [1] hU hW hK hP hD (by decide +kernel) rfl⟩ rfl rfl hl.1 rfl (lv_room (Nat.le_of_ble_eq_true rfl)) dX5_bench_5 ⟨Nat.le_of_ble_eq_true rfl, Nat.le_of_ble_eq_true rfl⟩) hS hD hA rfl (fun u t H locs ht hvm hB hz1 hk1 hFq hAq hS => ?_)
  obtain ⟨hP1, hK1, hD1⟩ := hB
  have hP := zKeep hP hD [1] hAq hk1 ht hP1 rfl
  refine lv_if_ne (tgt := 14) hx hb dX5_bench_8 (by decide +kernel) (fun c_3 => ?_) (fun c_3 => ?_)
  · skip
    have p_4 : (mHas jg v0) = true := bz_ne rfl c_3
    have hv_6 : v0 = nI (nC v0) := mHas_eq p_4
    have hk_7 : nC v0 < jg := mHas_lt (by omega) p_4
    refine lv_iload_n hx hb dX5_bench_14 rfl (lv_at hl 2 rfl) ?_
    by_cases s_8 : v1 = 0
    · skip
      refine lv_tableIn (off := 25) (tgt := 40) hx hb dX5_bench_15 (by rw [s_8]; decide) (by rw [s_8]; decide) (by rw [s_8]; decide) (by decide +kernel) ?_
      refine g_aget (D := G.1) (ci := 5) (v := .ref nw) (C := RX5) (T := TX5) (N := 8) hx hb dX5_bench_40 rfl (lv_at hl 0 rfl) hts hiX5 hown hK hP 0 rfl rfl 2 (by decide +kernel) kf28 (fun _ h9 => h9) rfl dX5_bench_41 ?_
      refine va_get (D := G.1) (ci := 0) (v := .ref n2) (C := RX0) (T := TX0) (N := 12) hx hb hts hiX0 hown hK hP 1 rfl rfl 2 (by decide +kernel) kf98 (fun _ h9 => h9) rfl dX5_bench_44 ?_
      refine lv_iload_n hx hb dX5_bench_47 rfl (lv_at hl 1 rfl) ?_
      refine g_topi (y := nI (nC v0)) hv_6 ?_
      refine g_iald (D := G.1) hx hb hK hP 2 0 rfl rfl (k := nC v0) (y := fso (nC v0)) (by omega) rfl rfl dX5_bench_48 ?_
      have hpost : (fun (r : Int32) (u : Unit) => match u with | _ => r = m_X5_bench jg fso fmi fpa v0 v1) (fso (nC v0)) () := (show m_X5_bench jg fso fmi fpa v0 v1 = (fso (nC v0)) from by unfold m_X5_bench; rw [if_pos p_4, if_pos s_8]).symm
      exact W.iret (v := (fso (nC v0))) hx hb hr (fun t ht hW => ⟨⟨(fso (nC v0)), (), rfl, hpost, by rw [ht]; exact hP, va_K.moved hW.alike hK, hD⟩, hS.F ht⟩) hS.2.2 dX5_bench_49
    by_cases s_11 : v1 = 1
    · skip
      refine lv_tableIn (off := 35) (tgt := 50) hx hb dX5_bench_15 (by rw [s_11]; decide) (by rw [s_11]; decide) (by rw [s_11]; decide) (by decide +kernel) ?_
      refine g_aget (D := G.1) (ci := 5) (v := .ref nw) (C := RX5) (T := TX5) (N := 8) hx hb dX5_bench_50 rfl (lv_at hl 0 rfl) hts hiX5 hown hK hP 0 rfl rfl 2 (by decide +kernel) kf28 (fun _ h9 => h9) rfl dX5_bench_51 ?_
      refine va_get (D := G.1) (ci := 0) (v := .ref n3) (C := RX0) (T := TX0) (N := 12) hx hb hts hiX0 hown hK hP 1 rfl rfl 3 (by decide +kernel) kf102 (fun _ h9 => h9) rfl dX5_bench_54 ?_
      refine lv_iload_n hx hb dX5_bench_57 rfl (lv_at hl 1 rfl) ?_
      refine g_topi (y := nI (nC v0)) hv_6 ?_
      refine g_iald (D := G.1) hx hb hK hP 3 0 rfl rfl (k := nC v0) (y := fmi (nC v0)) (by omega) rfl rfl dX5_bench_58 ?_
      have hpost : (fun (r : Int32) (u : Unit) => match u with | _ => r = m_X5_bench jg fso fmi fpa v0 v1) (fmi (nC v0)) () := (show m_X5_bench jg fso fmi fpa v0 v1 = (fmi (nC v0)) from by unfold m_X5_bench; rw [if_pos p_4, if_neg s_8, if_pos s_11]).symm
      exact W.iret (v := (fmi (nC v0))) hx hb hr (fun t ht hW => ⟨⟨(fmi (nC v0)), (), rfl, hpost, by rw [ht]; exact hP, va_K.moved hW.alike hK, hD⟩, hS.F ht⟩) hS.2.2 dX5_bench_59
    by_cases s_14 : v1 = 2
    · skip
      refine lv_tableIn (off := 45) (tgt := 60) hx hb dX5_bench_15 (by rw [s_14]; decide) (by rw [s_14]; decide) (by rw [s_14]; decide) (by decide +kernel) ?_
      refine g_aget (D := G.1) (ci := 5) (v := .ref nw) (C := RX5) (T := TX5) (N := 8) hx hb dX5_bench_60 rfl (lv_at hl 0 rfl) hts hiX5 hown hK hP 0 rfl rfl 2 (by decide +kernel) kf28 (fun _ h9 => h9) rfl dX5_bench_61 ?_
      refine va_get (D := G.1) (ci := 0) (v := .ref n4) (C := RX0) (T := TX0) (N := 12) hx hb hts hiX0 hown hK hP 1 rfl rfl 4 (by decide +kernel) kf105 (fun _ h9 => h9) rfl dX5_bench_64 ?_
      refine lv_iload_n hx hb dX5_bench_67 rfl (lv_at hl 1 rfl) ?_
      refine g_topi (y := nI (nC v0)) hv_6 ?_
      refine g_iald (D := G.1) hx hb hK hP 4 0 rfl rfl (k := nC v0) (y := fpa (nC v0)) (by omega) rfl rfl dX5_bench_68 ?_
      have hpost : (fun (r : Int32) (u : Unit) => match u with | _ => r = m_X5_bench jg fso fmi fpa v0 v1) (fpa (nC v0)) () := (show m_X5_bench jg fso fmi fpa v0 v1 = (fpa (nC v0)) from by unfold m_X5_bench; rw [if_pos p_4, if_neg s_8, if_neg s_11, if_pos s_14]).symm
      exact W.iret (v := (fpa (nC v0))) hx hb hr (fun t ht hW => ⟨⟨(fpa (nC v0)), (), rfl, hpost, by rw [ht]; exact hP, va_K.moved hW.alike hK, hD⟩, hS.F ht⟩) hS.2.2 dX5_bench_69
    have s_8T := lv_neT (a := 0) s_8 (by decide +kernel)
    have s_11T := lv_neT (a := 1) s_11 (by decide +kernel)
    have s_14T := lv_neT (a := 2) s_14 (by decide +kernel)
    refine lv_tableOut (tgt := 70) hx hb dX5_bench_15 (by omega) (by decide +kernel) ?_
    refine lv_bipush (v := -7) hx hb dX5_bench_70 (by decide +kernel) ?_
    have hpost : (fun (r : Int32) (u : Unit) => match u with | _ => r = m_X5_bench jg fso fmi fpa v0 v1) (-7) () := (show m_X5_bench jg fso fmi fpa v0 v1 = (-7) from by unfold m_X5_bench; rw [if_pos p_4, if_neg s_8, if_neg s_11, if_neg s_14]).symm
    exact W.iret (v := (-7)) hx hb hr (fun t ht hW => ⟨⟨(-7), (), rfl, hpost, by rw [ht]; exact hP, va_K.moved hW.alike hK, hD⟩, hS.F ht⟩) hS.2.2 dX5_bench_72
  · skip
    have n_5 : (mHas jg v0) = false := bz_eq rfl c_3
    have n_5N : ¬ ((mHas jg v0) = true) := by rw [n_5]; decide
    refine lv_bipush (v := -5) hx hb dX5_bench_11 (by decide +kernel) ?_
    have hpost : (fun (r : Int32) (u : Unit) => match u with | _ => r = m_X5_bench jg fso fmi fpa v0 v1) (-5) () := (show m_X5_bench jg fso fmi fpa v0 v1 = (-5) from by unfold m_X5_bench; rw [if_neg n_5N]).symm
    exact W.iret (v := (-5)) hx hb hr (fun t ht hW => ⟨⟨(-5), (), rfl, hpost, by rw [ht]; exact hP, va_K.moved hW.alike hK, hD⟩, hS.F ht⟩) hS.2.2 dX5_bench_13
noncomputable def m_X5_asks (jg : Nat) (pb : Nat) (fet : Nat → Nat) (fso : Nat → Int32) (fmi : Nat → Int32) (fmo : Nat → Int32) (fsz : Nat → Int32) (frd : Nat → Int32) (fct : Nat → Int32) (v0 : Int32) (v1 : Int32) (v2 : Int32) : Int32 := if 0 ≤ v0 ∧ v0 ≤ 2 then (if (mHas jg v1) = true then (if (mHas pb v2) = true then m_X0_says (nC v0) (nC v1) (nC v2) fso fmi fmo fsz frd fct fet else -2) else -2) else -2
abbrev q_X5_asks (G : gG) (h0 tt rd nw th kp sh tu n1 n2 n3 n4 n5 n6 n7 n8 co en sk ct et : Nat) (jg : Nat) (pb : Nat) (lw : Nat) (tx : Nat) (him : Int32) (wr : Int32) (fc : Nat → Option Nat) (fe : Nat → Option Nat) (fet : Nat → Nat) (fnm : Nat → Int32) (fso : Nat → Int32) (fmi : Nat → Int32) (fpa : Nat → Int32) (fki : Nat → Int32) (fmo : Nat → Int32) (fsz : Nat → Int32) (frd : Nat → Int32) (fct : Nat → Int32) (fsk : Nat → Int32) (v0 : Int32) (v1 : Int32) (v2 : Int32) (A : Nat → Prop) : Array Value → State → Outcome → State → Prop := va_Qi (fun (r : Int32) (u : (Nat → Int32) × (Nat → Int32)) => match u with | (yn1, ysk) => r = m_X5_asks jg pb fet fso fmi fmo fsz frd fct v0 v1 v2) (fun (u : (Nat → Int32) × (Nat → Int32)) t => match u with | (yn1, ysk) => va_P G.1 vwCl [zo5 h0 tt rd nw th kp sh tu him, zo0 nw tt n1 n2 n3 n4 n5 n6 n7 n8 (nI (jg)) (nI (pb)) (nI lw), zi G n1 6 yn1, zi G n2 4 fso, zi G n3 4 fmi, zi G n4 4 fpa, zi G n5 6 fki, zi G n6 6 fmo, zi G n7 6 fsz, zi G n8 6 frd, zo3 tt co en sk wr (nI tx), zr G co 6 fc, zr G en 6 fe, zi G ct 160 fct, zi G et 3 (nF fet), zi G sk 32 ysk] t.heap ∧ gK G t ∧ va_D A [zo5 h0 tt rd nw th kp sh tu him, zo0 nw tt n1 n2 n3 n4 n5 n6 n7 n8 (nI (jg)) (nI (pb)) (nI lw), zi G n1 6 yn1, zi G n2 4 fso, zi G n3 4 fmi, zi G n4 4 fpa, zi G n5 6 fki, zi G n6 6 fmo, zi G n7 6 fsz, zi G n8 6 frd, zo3 tt co en sk wr (nI tx), zr G co 6 fc, zr G en 6 fe, zi G ct 160 fct, zi G et 3 (nF fet), zi G sk 32 ysk]) A
set_option maxHeartbeats 4000000 in
set_option maxRecDepth 100000 in
theorem c_X5_asks (l : Launch) (G : gG) (h0 tt rd nw th kp sh tu n1 n2 n3 n4 n5 n6 n7 n8 co en sk ct et : Nat) (jg : Nat) (pb : Nat) (lw : Nat) (tx : Nat) (him : Int32) (wr : Int32) (fc : Nat → Option Nat) (fe : Nat → Option Nat) (fet : Nat → Nat) (fnm : Nat → Int32) (fso : Nat → Int32) (fmi : Nat → Int32) (fpa : Nat → Int32) (fki : Nat → Int32) (fmo : Nat → Int32) (fsz : Nat → Int32) (frd : Nat → Int32) (fct : Nat → Int32) (fsk : Nat → Int32) (v0 : Int32) (v1 : Int32) (v2 : Int32) (sz : Nat) (htn : lw < tx ∧ tx ≤ 6) (hc : fc lw = some ct) (he : fe lw = some et) (hwx : mWx fct fet) (hjg : jg ≤ 4) (hpb : pb ≤ 6) : Met l yX5_asks wsX5_asks ({ frames := 3, cells := 0, slots := 0, locals := 84 }) (gPre G [.ref h0, .int v0, .int v1, .int v2] [zo5 h0 tt rd nw th kp sh tu him, zo0 nw tt n1 n2 n3 n4 n5 n6 n7 n8 (nI jg) (nI pb) (nI lw), zi G n1 6 fnm, zi G n2 4 fso, zi G n3 4 fmi, zi G n4 4 fpa, zi G n5 6 fki, zi G n6 6 fmo, zi G n7 6 fsz, zi G n8 6 frd, zo3 tt co en sk wr (nI tx), zr G co 6 fc, zr G en 6 fe, zi G ct 160 fct, zi G et 3 (nF fet), zi G sk 32 fsk] sz) (q_X5_asks G h0 tt rd nw th kp sh tu n1 n2 n3 n4 n5 n6 n7 n8 co en sk ct et jg pb lw tx him wr fc fe fet fnm fso fmi fpa fki fmo fsz frd fct fsk v0 v1 v2 (va_A [zo5 h0 tt rd nw th kp sh tu him, zo0 nw tt n1 n2 n3 n4 n5 n6 n7 n8 (nI jg) (nI pb) (nI lw), zi G n1 6 fnm, zi G n2 4 fso, zi G n3 4 fmi, zi G n4 4 fpa, zi G n5 6 fki, zi G n6 6 fmo, zi G n7 6 fsz, zi G n8 6 frd, zo3 tt co en sk wr (nI tx), zr G co 6 fc, zr G en 6 fe, zi G ct 160 fct, zi G et 3 (nF fet), zi G sk 32 fsk] sz)) 0 0 (va_A [zo5 h0 tt rd nw th kp sh tu him, zo0 nw tt n1 n2 n3 n4 n5 n6 n7 n8 (nI jg) (nI pb) (nI lw), zi G n1 6 fnm, zi G n2 4 fso, zi G n3 4 fmi, zi G n4 4 fpa, zi G n5 6 fki, zi G n6 6 fmo, zi G n7 6 fsz, zi G n8 6 frd, zo3 tt co en sk wr (nI tx), zr G co 6 fc, zr G en 6 fe, zi G ct 160 fct, zi G et 3 (nF fet), zi G sk 32 fsk] sz) := by
  refine Met.ofW (cc := cX5_asks) (maxL := 4) (ret := (some .int)) (by decide +kernel) rfl ?_
  intro p e s m args below meth c s₁ B hml hv
  obtain ⟨rfl, hsz, hP, hK, hD0⟩ := hv
  have hx := B.exec
  have hb := B.bytes
  have hr := B.returns
  have hts := atoms_spec (ws := wsX5_asks) B.pre
  have hown : s.vm.findClass RX5 = some m.cls := findClass_of_methodNamed B.named
  have hlocks := B.notSynchronized
  subst hsz
  have hD := hD0.self (sz := s.heap.size)
  generalize hAe : va_A [zo5 h0 tt rd nw th kp sh tu him, zo0 nw tt n1 n2 n3 n4 n5 n6 n7 n8 (nI jg) (nI pb) (nI lw), zi G n1 6 fnm, zi G n2 4 fso, zi G n3 4 fmi, zi G n4 4 fpa, zi G n5 6 fki, zi G n6 6 fmo, zi G n7 6 fsz, zi G n8 6 frd, zo3 tt co en sk wr (nI tx), zr G co 6 fc, zr G en 6 fe, zi G ct 160 fct, zi G et 3 (nF fet), zi G sk 32 fsk] s.heap.size = A at hD ⊢
  have hA : ∀ q : Nat, s.heap.size ≤ q → A q := fun q h => by rw [← hAe]; exact Or.inr h
  have hS : va_S A s.heap s.heap [] := va_S.rf
  have hz9 : gPD G A [zo5 h0 tt rd nw th kp sh tu him, zo0 nw tt n1 n2 n3 n4 n5 n6 n7 n8 (nI jg) (nI pb) (nI lw), zi G n1 6 fnm, zi G n2 4 fso, zi G n3 4 fmi, zi G n4 4 fpa, zi G n5 6 fki, zi G n6 6 fmo, zi G n7 6 fsz, zi G n8 6 frd, zo3 tt co en sk wr (nI tx), zr G co 6 fc, zr G en 6 fe, zi G ct 160 fct, zi G et 3 (nF fet), zi G sk 32 fsk] s.heap := ⟨hP, hD⟩
  have hP := hz9.1
  have hD := hz9.2
  have hl := lv_entry ([.ref h0, .int v0, .int v1, .int v2]) (n := 4) (Nat.le_of_ble_eq_true rfl)
  rw [lg_entry_eq]
  generalize (lg_sl ([.ref h0, .int v0, .int v1, .int v2]) ++ List.replicate (4 - (lg_sl ([.ref h0, .int v0, .int v1, .int v2])).length) Slot.unset).toArray = ls at hl ⊢
  have hl : lv_has ls 4 [zR 0 h0, zI 1 v0, zI 2 v1, zI 3 v2] := hl
  have kf28 := hts (.fieldLink RX5 28 "PebbleInShoe" "now" "LPebbleInShoe$Court;") (by decide +kernel)
  have hiX5 := (by decide +kernel : ∀ w ∈ wsX50, w ∈ wsX5_asks)
  refine lv_iload_n hx hb dX5_asks_0 rfl (lv_at hl 1 rfl) ?_
  refine lv_iconst (v := 2) hx hb dX5_asks_1 (by decide +kernel) ?_
  refine z_calli [] (v := bz (decide (0 ≤ v0 ∧ v0 ≤ 2))) (fun _ _ h => h) (va_runS (As := [.int v0, .int 2]) (rest := []) ⟨hx, hb, hml, hown, hts⟩ (c_X5_within_g l G v0 2 s.heap.size) (va_cwS 2 hts gX5_asks_X5_within rfl rfl rfl (by decide +kernel) ⟨Nat.le_of_ble_eq_true rfl, Nat.le_of_ble_eq_true rfl⟩) ⟨gPre_blind, fun U hU hW => gPre_ofF [] hU hW hK hP hD (by decide +kernel) rfl⟩ rfl rfl hl.1 rfl (lv_room (Nat.le_of_ble_eq_true rfl)) dX5_asks_2 ⟨Nat.le_of_ble_eq_true rfl, Nat.le_of_ble_eq_true rfl⟩) hS hD hA rfl (fun u t H locs ht hvm hB hz1 hk1 hFq hAq hS => ?_)
  obtain ⟨hP1, hK1, hD1⟩ := hB
  have hP := zKeep hP hD [] hAq hk1 ht hP1 rfl
  refine lv_if_eq (tgt := 30) hx hb dX5_asks_5 (by decide +kernel) (fun c_3 => ?_) (fun c_3 => ?_)
  · skip
    have n_5 : ¬ (0 ≤ v0 ∧ v0 ≤ 2) := of_decide_eq_false (bz_eq rfl c_3)
    refine lv_bipush (v := -2) hx hb dX5_asks_30 (by decide +kernel) ?_
    have hpost : (fun (r : Int32) (u : (Nat → Int32) × (Nat → Int32)) => match u with | (yn1, ysk) => r = m_X5_asks jg pb fet fso fmi fmo fsz frd fct v0 v1 v2) (-2) (fnm, fsk) := (show m_X5_asks jg pb fet fso fmi fmo fsz frd fct v0 v1 v2 = (-2) from by unfold m_X5_asks; rw [if_neg n_5]).symm
    exact W.iret (v := (-2)) hx hb hr (fun t ht hW => ⟨⟨(-2), (fnm, fsk), rfl, hpost, by rw [ht]; exact hP, va_K.moved hW.alike hK, hD⟩, hS.F ht⟩) hS.2.2 dX5_asks_32
  · skip
    have p_4 : 0 ≤ v0 ∧ v0 ≤ 2 := of_decide_eq_true (bz_ne rfl c_3)
    have hv_6 : v0 = nI (nC v0) := nC_eq p_4.1
    have hk_7 : nC v0 ≤ 2 := nC_le (n := 2) (by omega) p_4
    refine g_aget (D := G.1) (ci := 5) (v := .ref nw) (C := RX5) (T := TX5) (N := 8) hx hb dX5_asks_8 rfl (lv_at hl 0 rfl) hts hiX5 hown hK hP 0 rfl rfl 2 (by decide +kernel) kf28 (fun _ h9 => h9) rfl dX5_asks_9 ?_
    refine lv_iload_n hx hb dX5_asks_12 rfl (lv_at hl 2 rfl) ?_
    refine z_calli [1] (v := bz (mHas jg v1)) (fun _ _ h => h) (va_runV (As := [.int v1]) (rest := []) ⟨hx, hb, hml, hown, hts⟩ (c_X0_hasJudge_g l G nw tt n1 n2 n3 n4 n5 n6 n7 n8 jg pb lw v1 H.size (by first | exact hjg | assumption | omega) (by first | exact hpb | assumption | omega)) (cwV 1 hts gX5_asks_X0_hasJudge rfl rfl rfl (by decide +kernel) ⟨Nat.le_of_ble_eq_true rfl, Nat.le_of_ble_eq_true rfl⟩) ⟨gPre_blind, va_recv (q := (RX0, TX0, 12)) hK hP (ci := 0) (q0 := 1) rfl rfl, fun U hU hW => gPre_ofF [1] hU hW hK hP hD (by decide +kernel) rfl⟩ rfl rfl hl.1 rfl (lv_room (Nat.le_of_ble_eq_true rfl)) dX5_asks_13 ⟨Nat.le_of_ble_eq_true rfl, Nat.le_of_ble_eq_true rfl⟩) hS hD hA rfl (fun u t H locs ht hvm hB hz1 hk1 hFq hAq hS => ?_)
    obtain ⟨hP1, hK1, hD1⟩ := hB
    have hP := zKeep hP hD [1] hAq hk1 ht hP1 rfl
    refine lv_if_eq (tgt := 30) hx hb dX5_asks_16 (by decide +kernel) (fun c_10 => ?_) (fun c_10 => ?_)
    · skip
      have n_12 : (mHas jg v1) = false := bz_eq rfl c_10
      have n_12N : ¬ ((mHas jg v1) = true) := by rw [n_12]; decide
      refine lv_bipush (v := -2) hx hb dX5_asks_30 (by decide +kernel) ?_
      have hpost : (fun (r : Int32) (u : (Nat → Int32) × (Nat → Int32)) => match u with | (yn1, ysk) => r = m_X5_asks jg pb fet fso fmi fmo fsz frd fct v0 v1 v2) (-2) (fnm, fsk) := (show m_X5_asks jg pb fet fso fmi fmo fsz frd fct v0 v1 v2 = (-2) from by unfold m_X5_asks; rw [if_pos p_4, if_neg n_12N]).symm
      exact W.iret (v := (-2)) hx hb hr (fun t ht hW => ⟨⟨(-2), (fnm, fsk), rfl, hpost, by rw [ht]; exact hP, va_K.moved hW.alike hK, hD⟩, hS.F ht⟩) hS.2.2 dX5_asks_32
    · skip
      have p_11 : (mHas jg v1) = true := bz_ne rfl c_10
      have hv_13 : v1 = nI (nC v1) := mHas_eq p_11
      have hk_14 : nC v1 < jg := mHas_lt (by omega) p_11
      refine g_aget (D := G.1) (ci := 5) (v := .ref nw) (C := RX5) (T := TX5) (N := 8) hx hb dX5_asks_19 rfl (lv_at hl 0 rfl) hts hiX5 hown hK hP 0 rfl rfl 2 (by decide +kernel) kf28 (fun _ h9 => h9) rfl dX5_asks_20 ?_
      refine lv_iload_n hx hb dX5_asks_23 rfl (lv_at hl 3 rfl) ?_
      refine z_calli [1] (v := bz (mHas pb v2)) (fun _ _ h => h) (va_runV (As := [.int v2]) (rest := []) ⟨hx, hb, hml, hown, hts⟩ (c_X0_hasPebble_g l G nw tt n1 n2 n3 n4 n5 n6 n7 n8 jg pb lw v2 H.size (by first | exact hjg | assumption | omega) (by first | exact hpb | assumption | omega)) (cwV 1 hts gX5_asks_X0_hasPebble rfl rfl rfl (by decide +kernel) ⟨Nat.le_of_ble_eq_true rfl, Nat.le_of_ble_eq_true rfl⟩) ⟨gPre_blind, va_recv (q := (RX0, TX0, 12)) hK hP (ci := 0) (q0 := 1) rfl rfl, fun U hU hW => gPre_ofF [1] hU hW hK hP hD (by decide +kernel) rfl⟩ rfl rfl hl.1 rfl (lv_room (Nat.le_of_ble_eq_true rfl)) dX5_asks_24 ⟨Nat.le_of_ble_eq_true rfl, Nat.le_of_ble_eq_true rfl⟩) hS hD hA rfl (fun u t H locs ht hvm hB hz1 hk1 hFq hAq hS => ?_)
      obtain ⟨hP1, hK1, hD1⟩ := hB
      have hP := zKeep hP hD [1] hAq hk1 ht hP1 rfl
      refine lv_if_ne (tgt := 33) hx hb dX5_asks_27 (by decide +kernel) (fun c_17 => ?_) (fun c_17 => ?_)
      · skip
        have p_18 : (mHas pb v2) = true := bz_ne rfl c_17
        have hv_20 : v2 = nI (nC v2) := mHas_eq p_18
        have hk_21 : nC v2 < pb := mHas_lt (by omega) p_18
        refine g_aget (D := G.1) (ci := 5) (v := .ref nw) (C := RX5) (T := TX5) (N := 8) hx hb dX5_asks_33 rfl (lv_at hl 0 rfl) hts hiX5 hown hK hP 0 rfl rfl 2 (by decide +kernel) kf28 (fun _ h9 => h9) rfl dX5_asks_34 ?_
        refine lv_iload_n hx hb dX5_asks_37 rfl (lv_at hl 1 rfl) ?_
        refine g_topi (y := nI (nC v0)) hv_6 ?_
        refine lv_iload_n hx hb dX5_asks_38 rfl (lv_at hl 2 rfl) ?_
        refine g_topi (y := nI (nC v1)) hv_13 ?_
        refine lv_iload_n hx hb dX5_asks_39 rfl (lv_at hl 3 rfl) ?_
        refine g_topi (y := nI (nC v2)) hv_20 ?_
        refine z_calli [1, 2, 3, 4, 7, 8, 9, 10, 11, 12, 13, 14, 15] (v := m_X0_says (nC v0) (nC v1) (nC v2) fso fmi fmo fsz frd fct fet) (fun _ ⟨_, _⟩ h => h) (va_runV (As := [.int (nI (nC v0)), .int (nI (nC v1)), .int (nI (nC v2))]) (rest := []) ⟨hx, hb, hml, hown, hts⟩ (c_X0_says l G nw tt n1 n2 n3 n4 n5 n6 n7 n8 co en sk ct et lw (nC v0) (nC v1) (nC v2) tx (nI jg) (nI pb) wr fnm fso fmi fmo fsz frd fc fe fct fet fsk H.size (by first | exact hpt | assumption | omega) (by first | exact hj | assumption | omega) (by first | exact hp | assumption | omega) (by first | exact htn | assumption | omega) (by first | exact hc | assumption | omega) (by first | exact he | assumption | omega) (by first | exact hwx | assumption | omega)) (cwV 3 hts gX5_asks_X0_says rfl rfl rfl (by decide +kernel) ⟨Nat.le_of_ble_eq_true rfl, Nat.le_of_ble_eq_true rfl⟩) ⟨gPre_blind, va_recv (q := (RX0, TX0, 12)) hK hP (ci := 0) (q0 := 1) rfl rfl, fun U hU hW => gPre_ofF [1, 2, 3, 4, 7, 8, 9, 10, 11, 12, 13, 14, 15] hU hW hK hP hD (by decide +kernel) rfl⟩ rfl rfl hl.1 rfl (lv_room (Nat.le_of_ble_eq_true rfl)) dX5_asks_40 ⟨Nat.le_of_ble_eq_true rfl, Nat.le_of_ble_eq_true rfl⟩) hS hD hA rfl (fun u t H locs ht hvm hB hz1 hk1 hFq hAq hS => ?_)
        obtain ⟨yn1_27, ysk_28⟩ := u
        obtain ⟨hP1, hK1, hD1⟩ := hB
        have hz9 : gPD G A [zo5 h0 tt rd nw th kp sh tu him, zo0 nw tt n1 n2 n3 n4 n5 n6 n7 n8 (nI jg) (nI pb) (nI lw), zi G n1 6 yn1_27, zi G n2 4 fso, zi G n3 4 fmi, zi G n4 4 fpa, zi G n5 6 fki, zi G n6 6 fmo, zi G n7 6 fsz, zi G n8 6 frd, zo3 tt co en sk wr (nI tx), zr G co 6 fc, zr G en 6 fe, zi G ct 160 fct, zi G et 3 (nF fet), zi G sk 32 ysk_28] H := zFill hP hD [1, 2, 3, 4, 7, 8, 9, 10, 11, 12, 13, 14, 15] [0, 1, 2, 3, 4, 0, 0, 5, 6, 7, 8, 9, 10, 11, 12, 13] hAq hk1 hFq ht hP1 hD1 rfl (by decide +kernel)
        have hP := hz9.1
        have hD := hz9.2
        have hpost : (fun (r : Int32) (u : (Nat → Int32) × (Nat → Int32)) => match u with | (yn1, ysk) => r = m_X5_asks jg pb fet fso fmi fmo fsz frd fct v0 v1 v2) (m_X0_says (nC v0) (nC v1) (nC v2) fso fmi fmo fsz frd fct fet) (yn1_27, ysk_28) := (show m_X5_asks jg pb fet fso fmi fmo fsz frd fct v0 v1 v2 = (m_X0_says (nC v0) (nC v1) (nC v2) fso fmi fmo fsz frd fct fet) from by unfold m_X5_asks; rw [if_pos p_4, if_pos p_11, if_pos p_18]).symm
        exact W.iret (v := (m_X0_says (nC v0) (nC v1) (nC v2) fso fmi fmo fsz frd fct fet)) hx hb hr (fun t ht hW => ⟨⟨(m_X0_says (nC v0) (nC v1) (nC v2) fso fmi fmo fsz frd fct fet), (yn1_27, ysk_28), rfl, hpost, by rw [ht]; exact hP, va_K.moved hW.alike hK, hD⟩, hS.F ht⟩) hS.2.2 dX5_asks_43
      · skip
        have n_19 : (mHas pb v2) = false := bz_eq rfl c_17
        have n_19N : ¬ ((mHas pb v2) = true) := by rw [n_19]; decide
        refine lv_bipush (v := -2) hx hb dX5_asks_30 (by decide +kernel) ?_
        have hpost : (fun (r : Int32) (u : (Nat → Int32) × (Nat → Int32)) => match u with | (yn1, ysk) => r = m_X5_asks jg pb fet fso fmi fmo fsz frd fct v0 v1 v2) (-2) (fnm, fsk) := (show m_X5_asks jg pb fet fso fmi fmo fsz frd fct v0 v1 v2 = (-2) from by unfold m_X5_asks; rw [if_pos p_4, if_pos p_11, if_neg n_19N]).symm
        exact W.iret (v := (-2)) hx hb hr (fun t ht hW => ⟨⟨(-2), (fnm, fsk), rfl, hpost, by rw [ht]; exact hP, va_K.moved hW.alike hK, hD⟩, hS.F ht⟩) hS.2.2 dX5_asks_32
noncomputable def m_X5_pebble (pb : Nat) (v0 : Int32) (v1 : Int32) : Int32 := if 0 ≤ v0 ∧ v0 ≤ 59 then (if 0 ≤ v1 ∧ v1 ≤ 9999 then m_X0_addPebble pb else -2) else -2
noncomputable def m_X5_pebble_nw10 (pb : Nat) (v0 : Int32) (v1 : Int32) : Nat := if 0 ≤ v0 ∧ v0 ≤ 59 then (if 0 ≤ v1 ∧ v1 ≤ 9999 then (m_X0_addPebble_h010 pb) else pb) else pb
noncomputable def m_X5_pebble_n5 (pb : Nat) (fki : Nat → Int32) (v0 : Int32) (v1 : Int32) : Nat → Int32 := if 0 ≤ v0 ∧ v0 ≤ 59 then (if 0 ≤ v1 ∧ v1 ≤ 9999 then (m_X0_addPebble_n5 pb fki (nI (nC v0))) else fki) else fki
noncomputable def m_X5_pebble_n6 (pb : Nat) (fmo : Nat → Int32) (v0 : Int32) (v1 : Int32) : Nat → Int32 := if 0 ≤ v0 ∧ v0 ≤ 59 then (if 0 ≤ v1 ∧ v1 ≤ 9999 then (m_X0_addPebble_n6 pb fmo (nI (nC v0))) else fmo) else fmo
noncomputable def m_X5_pebble_n7 (pb : Nat) (fsz : Nat → Int32) (v0 : Int32) (v1 : Int32) : Nat → Int32 := if 0 ≤ v0 ∧ v0 ≤ 59 then (if 0 ≤ v1 ∧ v1 ≤ 9999 then (m_X0_addPebble_n7 pb fsz (nI (nC v1))) else fsz) else fsz
noncomputable def m_X5_pebble_n8 (pb : Nat) (frd : Nat → Int32) (v0 : Int32) (v1 : Int32) : Nat → Int32 := if 0 ≤ v0 ∧ v0 ≤ 59 then (if 0 ≤ v1 ∧ v1 ≤ 9999 then (m_X0_addPebble_n8 pb frd (nI (nC v1))) else frd) else frd
abbrev q_X5_pebble (G : gG) (h0 tt rd nw th kp sh tu n1 n2 n3 n4 n5 n6 n7 n8 : Nat) (jg : Nat) (pb : Nat) (lw : Nat) (him : Int32) (fki : Nat → Int32) (fmo : Nat → Int32) (fsz : Nat → Int32) (frd : Nat → Int32) (v0 : Int32) (v1 : Int32) (A : Nat → Prop) : Array Value → State → Outcome → State → Prop := va_Qi (fun (r : Int32) (u : Unit) => match u with | _ => r = m_X5_pebble pb v0 v1) (fun (u : Unit) t => match u with | _ => va_P G.1 vwCl [zo5 h0 tt rd nw th kp sh tu him, zo0 nw tt n1 n2 n3 n4 n5 n6 n7 n8 (nI jg) (nI (m_X5_pebble_nw10 pb v0 v1)) (nI lw), zi G n5 6 (m_X5_pebble_n5 pb fki v0 v1), zi G n6 6 (m_X5_pebble_n6 pb fmo v0 v1), zi G n7 6 (m_X5_pebble_n7 pb fsz v0 v1), zi G n8 6 (m_X5_pebble_n8 pb frd v0 v1)] t.heap ∧ gK G t ∧ va_D A [zo5 h0 tt rd nw th kp sh tu him, zo0 nw tt n1 n2 n3 n4 n5 n6 n7 n8 (nI jg) (nI (m_X5_pebble_nw10 pb v0 v1)) (nI lw), zi G n5 6 (m_X5_pebble_n5 pb fki v0 v1), zi G n6 6 (m_X5_pebble_n6 pb fmo v0 v1), zi G n7 6 (m_X5_pebble_n7 pb fsz v0 v1), zi G n8 6 (m_X5_pebble_n8 pb frd v0 v1)]) A
set_option maxHeartbeats 4000000 in
set_option maxRecDepth 100000 in
theorem c_X5_pebble (l : Launch) (G : gG) (h0 tt rd nw th kp sh tu n1 n2 n3 n4 n5 n6 n7 n8 : Nat) (jg : Nat) (pb : Nat) (lw : Nat) (him : Int32) (fki : Nat → Int32) (fmo : Nat → Int32) (fsz : Nat → Int32) (frd : Nat → Int32) (v0 : Int32) (v1 : Int32) (sz : Nat) (hjg : jg ≤ 4) (hpb : pb ≤ 6) : Met l yX5_pebble wsX5_pebble ({ frames := 1, cells := 0, slots := 0, locals := 23 }) (gPre G [.ref h0, .int v0, .int v1] [zo5 h0 tt rd nw th kp sh tu him, zo0 nw tt n1 n2 n3 n4 n5 n6 n7 n8 (nI jg) (nI pb) (nI lw), zi G n5 6 fki, zi G n6 6 fmo, zi G n7 6 fsz, zi G n8 6 frd] sz) (q_X5_pebble G h0 tt rd nw th kp sh tu n1 n2 n3 n4 n5 n6 n7 n8 jg pb lw him fki fmo fsz frd v0 v1 (va_A [zo5 h0 tt rd nw th kp sh tu him, zo0 nw tt n1 n2 n3 n4 n5 n6 n7 n8 (nI jg) (nI pb) (nI lw), zi G n5 6 fki, zi G n6 6 fmo, zi G n7 6 fsz, zi G n8 6 frd] sz)) 0 0 (va_A [zo5 h0 tt rd nw th kp sh tu him, zo0 nw tt n1 n2 n3 n4 n5 n6 n7 n8 (nI jg) (nI pb) (nI lw), zi G n5 6 fki, zi G n6 6 fmo, zi G n7 6 fsz, zi G n8 6 frd] sz) := by
  refine Met.ofW (cc := cX5_pebble) (maxL := 3) (ret := (some .int)) (by decide +kernel) rfl ?_
  intro p e s m args below meth c s₁ B hml hv
  obtain ⟨rfl, hsz, hP, hK, hD0⟩ := hv
  have hx := B.exec
  have hb := B.bytes
  have hr := B.returns
  have hts := atoms_spec (ws := wsX5_pebble) B.pre
  have hown : s.vm.findClass RX5 = some m.cls := findClass_of_methodNamed B.named
  have hlocks := B.notSynchronized
  subst hsz
  have hD := hD0.self (sz := s.heap.size)
  generalize hAe : va_A [zo5 h0 tt rd nw th kp sh tu him, zo0 nw tt n1 n2 n3 n4 n5 n6 n7 n8 (nI jg) (nI pb) (nI lw), zi G n5 6 fki, zi G n6 6 fmo, zi G n7 6 fsz, zi G n8 6 frd] s.heap.size = A at hD ⊢
  have hA : ∀ q : Nat, s.heap.size ≤ q → A q := fun q h => by rw [← hAe]; exact Or.inr h
  have hS : va_S A s.heap s.heap [] := va_S.rf
  have hz9 : gPD G A [zo5 h0 tt rd nw th kp sh tu him, zo0 nw tt n1 n2 n3 n4 n5 n6 n7 n8 (nI jg) (nI pb) (nI lw), zi G n5 6 fki, zi G n6 6 fmo, zi G n7 6 fsz, zi G n8 6 frd] s.heap := ⟨hP, hD⟩
  have hP := hz9.1
  have hD := hz9.2
  have hl := lv_entry ([.ref h0, .int v0, .int v1]) (n := 3) (Nat.le_of_ble_eq_true rfl)
  rw [lg_entry_eq]
  generalize (lg_sl ([.ref h0, .int v0, .int v1]) ++ List.replicate (3 - (lg_sl ([.ref h0, .int v0, .int v1])).length) Slot.unset).toArray = ls at hl ⊢
  have hl : lv_has ls 3 [zR 0 h0, zI 1 v0, zI 2 v1] := hl
  have kf28 := hts (.fieldLink RX5 28 "PebbleInShoe" "now" "LPebbleInShoe$Court;") (by decide +kernel)
  have hiX5 := (by decide +kernel : ∀ w ∈ wsX50, w ∈ wsX5_pebble)
  refine lv_iload_n hx hb dX5_pebble_0 rfl (lv_at hl 1 rfl) ?_
  refine lv_bipush (v := 59) hx hb dX5_pebble_1 (by decide +kernel) ?_
  refine z_calli [] (v := bz (decide (0 ≤ v0 ∧ v0 ≤ 59))) (fun _ _ h => h) (va_runS (As := [.int v0, .int 59]) (rest := []) ⟨hx, hb, hml, hown, hts⟩ (c_X5_within_g l G v0 59 s.heap.size) (va_cwS 2 hts gX5_pebble_X5_within rfl rfl rfl (by decide +kernel) ⟨Nat.le_of_ble_eq_true rfl, Nat.le_of_ble_eq_true rfl⟩) ⟨gPre_blind, fun U hU hW => gPre_ofF [] hU hW hK hP hD (by decide +kernel) rfl⟩ rfl rfl hl.1 rfl (lv_room (Nat.le_of_ble_eq_true rfl)) dX5_pebble_3 ⟨Nat.le_of_ble_eq_true rfl, Nat.le_of_ble_eq_true rfl⟩) hS hD hA rfl (fun u t H locs ht hvm hB hz1 hk1 hFq hAq hS => ?_)
  obtain ⟨hP1, hK1, hD1⟩ := hB
  have hP := zKeep hP hD [] hAq hk1 ht hP1 rfl
  refine lv_if_eq (tgt := 19) hx hb dX5_pebble_6 (by decide +kernel) (fun c_3 => ?_) (fun c_3 => ?_)
  · skip
    have n_5 : ¬ (0 ≤ v0 ∧ v0 ≤ 59) := of_decide_eq_false (bz_eq rfl c_3)
    refine lv_bipush (v := -2) hx hb dX5_pebble_19 (by decide +kernel) ?_
    have q_8 : m_X5_pebble_nw10 pb v0 v1 = pb := by unfold m_X5_pebble_nw10; rw [if_neg n_5]
    have q_9 : m_X5_pebble_n5 pb fki v0 v1 = fki := by unfold m_X5_pebble_n5; rw [if_neg n_5]
    have q_10 : m_X5_pebble_n6 pb fmo v0 v1 = fmo := by unfold m_X5_pebble_n6; rw [if_neg n_5]
    have q_11 : m_X5_pebble_n7 pb fsz v0 v1 = fsz := by unfold m_X5_pebble_n7; rw [if_neg n_5]
    have q_12 : m_X5_pebble_n8 pb frd v0 v1 = frd := by unfold m_X5_pebble_n8; rw [if_neg n_5]
    have hz9 : gPD G A [zo5 h0 tt rd nw th kp sh tu him, zo0 nw tt n1 n2 n3 n4 n5 n6 n7 n8 (nI jg) (nI (m_X5_pebble_nw10 pb v0 v1)) (nI lw), zi G n5 6 (m_X5_pebble_n5 pb fki v0 v1), zi G n6 6 (m_X5_pebble_n6 pb fmo v0 v1), zi G n7 6 (m_X5_pebble_n7 pb fsz v0 v1), zi G n8 6 (m_X5_pebble_n8 pb frd v0 v1)] H := ⟨by rw [q_8, q_9, q_10, q_11, q_12]; exact hP, by rw [q_8, q_9, q_10, q_11, q_12]; exact hD⟩
    have hP9 := hz9.1
    have hD9 := hz9.2
    have hpost : (fun (r : Int32) (u : Unit) => match u with | _ => r = m_X5_pebble pb v0 v1) (-2) () := (show m_X5_pebble pb v0 v1 = (-2) from by unfold m_X5_pebble; rw [if_neg n_5]).symm
    exact W.iret (v := (-2)) hx hb hr (fun t ht hW => ⟨⟨(-2), (), rfl, hpost, by rw [ht]; exact hP9, va_K.moved hW.alike hK, hD9⟩, hS.F ht⟩) hS.2.2 dX5_pebble_21
  · skip
    have p_4 : 0 ≤ v0 ∧ v0 ≤ 59 := of_decide_eq_true (bz_ne rfl c_3)
    have hv_6 : v0 = nI (nC v0) := nC_eq p_4.1
    have hk_7 : nC v0 ≤ 59 := nC_le (n := 59) (by omega) p_4
    refine lv_iload_n hx hb dX5_pebble_9 rfl (lv_at hl 2 rfl) ?_
    refine lv_sipush (v := 9999) hx hb dX5_pebble_10 (by decide +kernel) ?_
    refine z_calli [] (v := bz (decide (0 ≤ v1 ∧ v1 ≤ 9999))) (fun _ _ h => h) (va_runS (As := [.int v1, .int 9999]) (rest := []) ⟨hx, hb, hml, hown, hts⟩ (c_X5_within_g l G v1 9999 H.size) (va_cwS 2 hts gX5_pebble_X5_within rfl rfl rfl (by decide +kernel) ⟨Nat.le_of_ble_eq_true rfl, Nat.le_of_ble_eq_true rfl⟩) ⟨gPre_blind, fun U hU hW => gPre_ofF [] hU hW hK hP hD (by decide +kernel) rfl⟩ rfl rfl hl.1 rfl (lv_room (Nat.le_of_ble_eq_true rfl)) dX5_pebble_13 ⟨Nat.le_of_ble_eq_true rfl, Nat.le_of_ble_eq_true rfl⟩) hS hD hA rfl (fun u t H locs ht hvm hB hz1 hk1 hFq hAq hS => ?_)
    obtain ⟨hP1, hK1, hD1⟩ := hB
    have hP := zKeep hP hD [] hAq hk1 ht hP1 rfl
    refine lv_if_ne (tgt := 22) hx hb dX5_pebble_16 (by decide +kernel) (fun c_15 => ?_) (fun c_15 => ?_)
    · skip
      have p_16 : 0 ≤ v1 ∧ v1 ≤ 9999 := of_decide_eq_true (bz_ne rfl c_15)
      have hv_18 : v1 = nI (nC v1) := nC_eq p_16.1
      have hk_19 : nC v1 ≤ 9999 := nC_le (n := 9999) (by omega) p_16
      refine g_aget (D := G.1) (ci := 5) (v := .ref nw) (C := RX5) (T := TX5) (N := 8) hx hb dX5_pebble_22 rfl (lv_at hl 0 rfl) hts hiX5 hown hK hP 0 rfl rfl 2 (by decide +kernel) kf28 (fun _ h9 => h9) rfl dX5_pebble_23 ?_
      refine lv_iload_n hx hb dX5_pebble_26 rfl (lv_at hl 1 rfl) ?_
      refine g_topi (y := nI (nC v0)) hv_6 ?_
      refine lv_iload_n hx hb dX5_pebble_27 rfl (lv_at hl 2 rfl) ?_
      refine g_topi (y := nI (nC v1)) hv_18 ?_
      refine z_calli [1, 2, 3, 4, 5] (v := m_X0_addPebble pb) (fun _ _ h => h) (va_runV (As := [.int (nI (nC v0)), .int (nI (nC v1))]) (rest := []) ⟨hx, hb, hml, hown, hts⟩ (c_X0_addPebble l G nw tt n1 n2 n3 n4 n5 n6 n7 n8 jg pb lw fki fmo fsz frd (nI (nC v0)) (nI (nC v1)) H.size (by first | exact hjg | assumption | omega) (by first | exact hpb | assumption | omega)) (cwV 2 hts gX5_pebble_X0_addPebble rfl rfl rfl (by decide +kernel) ⟨Nat.le_of_ble_eq_true rfl, Nat.le_of_ble_eq_true rfl⟩) ⟨gPre_blind, va_recv (q := (RX0, TX0, 12)) hK hP (ci := 0) (q0 := 1) rfl rfl, fun U hU hW => gPre_ofF [1, 2, 3, 4, 5] hU hW hK hP hD (by decide +kernel) rfl⟩ rfl rfl hl.1 rfl (lv_room (Nat.le_of_ble_eq_true rfl)) dX5_pebble_28 ⟨Nat.le_of_ble_eq_true rfl, Nat.le_of_ble_eq_true rfl⟩) hS hD hA rfl (fun u t H locs ht hvm hB hz1 hk1 hFq hAq hS => ?_)
      obtain ⟨hP1, hK1, hD1⟩ := hB
      have hz9 : gPD G A [zo5 h0 tt rd nw th kp sh tu him, zo0 nw tt n1 n2 n3 n4 n5 n6 n7 n8 (nI jg) (nI (m_X0_addPebble_h010 pb)) (nI lw), zi G n5 6 (m_X0_addPebble_n5 pb fki (nI (nC v0))), zi G n6 6 (m_X0_addPebble_n6 pb fmo (nI (nC v0))), zi G n7 6 (m_X0_addPebble_n7 pb fsz (nI (nC v1))), zi G n8 6 (m_X0_addPebble_n8 pb frd (nI (nC v1)))] H := zFill hP hD [1, 2, 3, 4, 5] [0, 1, 2, 3, 4, 5] hAq hk1 hFq ht hP1 hD1 rfl (by decide +kernel)
      have hP := hz9.1
      have hD := hz9.2
      have q_24 : m_X5_pebble_nw10 pb v0 v1 = m_X0_addPebble_h010 pb := by unfold m_X5_pebble_nw10; rw [if_pos p_4, if_pos p_16]
      have q_25 : m_X5_pebble_n5 pb fki v0 v1 = (m_X0_addPebble_n5 pb fki (nI (nC v0))) := by unfold m_X5_pebble_n5; rw [if_pos p_4, if_pos p_16]
      have q_26 : m_X5_pebble_n6 pb fmo v0 v1 = (m_X0_addPebble_n6 pb fmo (nI (nC v0))) := by unfold m_X5_pebble_n6; rw [if_pos p_4, if_pos p_16]
      have q_27 : m_X5_pebble_n7 pb fsz v0 v1 = (m_X0_addPebble_n7 pb fsz (nI (nC v1))) := by unfold m_X5_pebble_n7; rw [if_pos p_4, if_pos p_16]
      have q_28 : m_X5_pebble_n8 pb frd v0 v1 = (m_X0_addPebble_n8 pb frd (nI (nC v1))) := by unfold m_X5_pebble_n8; rw [if_pos p_4, if_pos p_16]
      have hz9 : gPD G A [zo5 h0 tt rd nw th kp sh tu him, zo0 nw tt n1 n2 n3 n4 n5 n6 n7 n8 (nI jg) (nI (m_X5_pebble_nw10 pb v0 v1)) (nI lw), zi G n5 6 (m_X5_pebble_n5 pb fki v0 v1), zi G n6 6 (m_X5_pebble_n6 pb fmo v0 v1), zi G n7 6 (m_X5_pebble_n7 pb fsz v0 v1), zi G n8 6 (m_X5_pebble_n8 pb frd v0 v1)] H := ⟨by rw [q_24, q_25, q_26, q_27, q_28]; exact hP, by rw [q_24, q_25, q_26, q_27, q_28]; exact hD⟩
      have hP9 := hz9.1
      have hD9 := hz9.2
      have hpost : (fun (r : Int32) (u : Unit) => match u with | _ => r = m_X5_pebble pb v0 v1) (m_X0_addPebble pb) () := (show m_X5_pebble pb v0 v1 = (m_X0_addPebble pb) from by unfold m_X5_pebble; rw [if_pos p_4, if_pos p_16]).symm
      exact W.iret (v := (m_X0_addPebble pb)) hx hb hr (fun t ht hW => ⟨⟨(m_X0_addPebble pb), (), rfl, hpost, by rw [ht]; exact hP9, va_K.moved hW.alike hK, hD9⟩, hS.F ht⟩) hS.2.2 dX5_pebble_31
    · skip
      have n_17 : ¬ (0 ≤ v1 ∧ v1 ≤ 9999) := of_decide_eq_false (bz_eq rfl c_15)
      refine lv_bipush (v := -2) hx hb dX5_pebble_19 (by decide +kernel) ?_
      have q_29 : m_X5_pebble_nw10 pb v0 v1 = pb := by unfold m_X5_pebble_nw10; rw [if_pos p_4, if_neg n_17]
      have q_30 : m_X5_pebble_n5 pb fki v0 v1 = fki := by unfold m_X5_pebble_n5; rw [if_pos p_4, if_neg n_17]
      have q_31 : m_X5_pebble_n6 pb fmo v0 v1 = fmo := by unfold m_X5_pebble_n6; rw [if_pos p_4, if_neg n_17]
      have q_32 : m_X5_pebble_n7 pb fsz v0 v1 = fsz := by unfold m_X5_pebble_n7; rw [if_pos p_4, if_neg n_17]
      have q_33 : m_X5_pebble_n8 pb frd v0 v1 = frd := by unfold m_X5_pebble_n8; rw [if_pos p_4, if_neg n_17]
      have hz9 : gPD G A [zo5 h0 tt rd nw th kp sh tu him, zo0 nw tt n1 n2 n3 n4 n5 n6 n7 n8 (nI jg) (nI (m_X5_pebble_nw10 pb v0 v1)) (nI lw), zi G n5 6 (m_X5_pebble_n5 pb fki v0 v1), zi G n6 6 (m_X5_pebble_n6 pb fmo v0 v1), zi G n7 6 (m_X5_pebble_n7 pb fsz v0 v1), zi G n8 6 (m_X5_pebble_n8 pb frd v0 v1)] H := ⟨by rw [q_29, q_30, q_31, q_32, q_33]; exact hP, by rw [q_29, q_30, q_31, q_32, q_33]; exact hD⟩
      have hP9 := hz9.1
      have hD9 := hz9.2
      have hpost : (fun (r : Int32) (u : Unit) => match u with | _ => r = m_X5_pebble pb v0 v1) (-2) () := (show m_X5_pebble pb v0 v1 = (-2) from by unfold m_X5_pebble; rw [if_pos p_4, if_neg n_17]).symm
      exact W.iret (v := (-2)) hx hb hr (fun t ht hW => ⟨⟨(-2), (), rfl, hpost, by rw [ht]; exact hP9, va_K.moved hW.alike hK, hD9⟩, hS.F ht⟩) hS.2.2 dX5_pebble_21
noncomputable def m_X5_put (pb : Nat) (fsz : Nat → Int32) (frd : Nat → Int32) (v0 : Int32) (v1 : Int32) (v2 : Int32) : Int32 := if (mHas pb v0) = true then (if 0 ≤ v1 ∧ v1 ≤ 1 then (if 0 ≤ v2 ∧ v2 ≤ 99 then (if (nI (nC v1)) = 0 then fsz (nC v0) else frd (nC v0)) else -7) else -7) else -5
noncomputable def m_X5_put_n7 (pb : Nat) (fsz : Nat → Int32) (v0 : Int32) (v1 : Int32) (v2 : Int32) : Nat → Int32 := if (mHas pb v0) = true then (if 0 ≤ v1 ∧ v1 ≤ 1 then (if 0 ≤ v2 ∧ v2 ≤ 99 then (if (nI (nC v1)) = 0 then upd fsz (nC v0) (nI (nC v2)) else fsz) else fsz) else fsz) else fsz
noncomputable def m_X5_put_n8 (pb : Nat) (frd : Nat → Int32) (v0 : Int32) (v1 : Int32) (v2 : Int32) : Nat → Int32 := if (mHas pb v0) = true then (if 0 ≤ v1 ∧ v1 ≤ 1 then (if 0 ≤ v2 ∧ v2 ≤ 99 then (if (nI (nC v1)) = 0 then frd else upd frd (nC v0) (nI (nC v2))) else frd) else frd) else frd
abbrev q_X5_put (G : gG) (h0 tt rd nw th kp sh tu n1 n2 n3 n4 n5 n6 n7 n8 : Nat) (jg : Nat) (pb : Nat) (lw : Nat) (him : Int32) (fsz : Nat → Int32) (frd : Nat → Int32) (v0 : Int32) (v1 : Int32) (v2 : Int32) (A : Nat → Prop) : Array Value → State → Outcome → State → Prop := va_Qi (fun (r : Int32) (u : Unit) => match u with | _ => r = m_X5_put pb fsz frd v0 v1 v2) (fun (u : Unit) t => match u with | _ => va_P G.1 vwCl [zo5 h0 tt rd nw th kp sh tu him, zo0 nw tt n1 n2 n3 n4 n5 n6 n7 n8 (nI jg) (nI pb) (nI lw), zi G n7 6 (m_X5_put_n7 pb fsz v0 v1 v2), zi G n8 6 (m_X5_put_n8 pb frd v0 v1 v2)] t.heap ∧ gK G t ∧ va_D A [zo5 h0 tt rd nw th kp sh tu him, zo0 nw tt n1 n2 n3 n4 n5 n6 n7 n8 (nI jg) (nI pb) (nI lw), zi G n7 6 (m_X5_put_n7 pb fsz v0 v1 v2), zi G n8 6 (m_X5_put_n8 pb frd v0 v1 v2)]) A
set_option maxHeartbeats 4000000 in
set_option maxRecDepth 100000 in
theorem c_X5_put (l : Launch) (G : gG) (h0 tt rd nw th kp sh tu n1 n2 n3 n4 n5 n6 n7 n8 : Nat) (jg : Nat) (pb : Nat) (lw : Nat) (him : Int32) (fsz : Nat → Int32) (frd : Nat → Int32) (v0 : Int32) (v1 : Int32) (v2 : Int32) (sz : Nat) (hjg : jg ≤ 4) (hpb : pb ≤ 6) : Met l yX5_put wsX5_put ({ frames := 1, cells := 0, slots := 0, locals := 21 }) (gPre G [.ref h0, .int v0, .int v1, .int v2] [zo5 h0 tt rd nw th kp sh tu him, zo0 nw tt n1 n2 n3 n4 n5 n6 n7 n8 (nI jg) (nI pb) (nI lw), zi G n7 6 fsz, zi G n8 6 frd] sz) (q_X5_put G h0 tt rd nw th kp sh tu n1 n2 n3 n4 n5 n6 n7 n8 jg pb lw him fsz frd v0 v1 v2 (va_A [zo5 h0 tt rd nw th kp sh tu him, zo0 nw tt n1 n2 n3 n4 n5 n6 n7 n8 (nI jg) (nI pb) (nI lw), zi G n7 6 fsz, zi G n8 6 frd] sz)) 0 0 (va_A [zo5 h0 tt rd nw th kp sh tu him, zo0 nw tt n1 n2 n3 n4 n5 n6 n7 n8 (nI jg) (nI pb) (nI lw), zi G n7 6 fsz, zi G n8 6 frd] sz) := by
  refine Met.ofW (cc := cX5_put) (maxL := 6) (ret := (some .int)) (by decide +kernel) rfl ?_
  intro p e s m args below meth c s₁ B hml hv
  obtain ⟨rfl, hsz, hP, hK, hD0⟩ := hv
  have hx := B.exec
  have hb := B.bytes
  have hr := B.returns
  have hts := atoms_spec (ws := wsX5_put) B.pre
  have hown : s.vm.findClass RX5 = some m.cls := findClass_of_methodNamed B.named
  have hlocks := B.notSynchronized
  subst hsz
  have hD := hD0.self (sz := s.heap.size)
  generalize hAe : va_A [zo5 h0 tt rd nw th kp sh tu him, zo0 nw tt n1 n2 n3 n4 n5 n6 n7 n8 (nI jg) (nI pb) (nI lw), zi G n7 6 fsz, zi G n8 6 frd] s.heap.size = A at hD ⊢
  have hA : ∀ q : Nat, s.heap.size ≤ q → A q := fun q h => by rw [← hAe]; exact Or.inr h
  have hS : va_S A s.heap s.heap [] := va_S.rf
  have hz9 : gPD G A [zo5 h0 tt rd nw th kp sh tu him, zo0 nw tt n1 n2 n3 n4 n5 n6 n7 n8 (nI jg) (nI pb) (nI lw), zi G n7 6 fsz, zi G n8 6 frd] s.heap := ⟨hP, hD⟩
  have hP := hz9.1
  have hD := hz9.2
  have hl := lv_entry ([.ref h0, .int v0, .int v1, .int v2]) (n := 6) (Nat.le_of_ble_eq_true rfl)
  rw [lg_entry_eq]
  generalize (lg_sl ([.ref h0, .int v0, .int v1, .int v2]) ++ List.replicate (6 - (lg_sl ([.ref h0, .int v0, .int v1, .int v2])).length) Slot.unset).toArray = ls at hl ⊢
  have hl : lv_has ls 6 [zR 0 h0, zI 1 v0, zI 2 v1, zI 3 v2] := hl
  have kf28 := hts (.fieldLink RX5 28 "PebbleInShoe" "now" "LPebbleInShoe$Court;") (by decide +kernel)
  have hiX5 := (by decide +kernel : ∀ w ∈ wsX50, w ∈ wsX5_put)
  have kf125 := hts (.fieldLink RX5 125 "PebbleInShoe$Court" "round" "[I") (by decide +kernel)
  have hiX0 := (by decide +kernel : ∀ w ∈ wsX00, w ∈ wsX5_put)
  have kf122 := hts (.fieldLink RX5 122 "PebbleInShoe$Court" "size" "[I") (by decide +kernel)
  refine g_aget (D := G.1) (ci := 5) (v := .ref nw) (C := RX5) (T := TX5) (N := 8) hx hb dX5_put_0 rfl (lv_at hl 0 rfl) hts hiX5 hown hK hP 0 rfl rfl 2 (by decide +kernel) kf28 (fun _ h9 => h9) rfl dX5_put_1 ?_
  refine lv_iload_n hx hb dX5_put_4 rfl (lv_at hl 1 rfl) ?_
  refine z_calli [1] (v := bz (mHas pb v0)) (fun _ _ h => h) (va_runV (As := [.int v0]) (rest := []) ⟨hx, hb, hml, hown, hts⟩ (c_X0_hasPebble_g l G nw tt n1 n2 n3 n4 n5 n6 n7 n8 jg pb lw v0 s.heap.size (by first | exact hjg | assumption | omega) (by first | exact hpb | assumption | omega)) (cwV 1 hts gX5_put_X0_hasPebble rfl rfl rfl (by decide +kernel) ⟨Nat.le_of_ble_eq_true rfl, Nat.le_of_ble_eq_true rfl⟩) ⟨gPre_blind, va_recv (q := (RX0, TX0, 12)) hK hP (ci := 0) (q0 := 1) rfl rfl, fun U hU hW => gPre_ofF [1] hU hW hK hP hD (by decide +kernel) rfl⟩ rfl rfl hl.1 rfl (lv_room (Nat.le_of_ble_eq_true rfl)) dX5_put_5 ⟨Nat.le_of_ble_eq_true rfl, Nat.le_of_ble_eq_true rfl⟩) hS hD hA rfl (fun u t H locs ht hvm hB hz1 hk1 hFq hAq hS => ?_)
  obtain ⟨hP1, hK1, hD1⟩ := hB
  have hP := zKeep hP hD [1] hAq hk1 ht hP1 rfl
  refine lv_if_ne (tgt := 14) hx hb dX5_put_8 (by decide +kernel) (fun c_3 => ?_) (fun c_3 => ?_)
  · skip
    have p_4 : (mHas pb v0) = true := bz_ne rfl c_3
    have hv_6 : v0 = nI (nC v0) := mHas_eq p_4
    have hk_7 : nC v0 < pb := mHas_lt (by omega) p_4
    refine lv_iload_n hx hb dX5_put_14 rfl (lv_at hl 2 rfl) ?_
    refine lv_iconst (v := 1) hx hb dX5_put_15 (by decide +kernel) ?_
    refine z_calli [] (v := bz (decide (0 ≤ v1 ∧ v1 ≤ 1))) (fun _ _ h => h) (va_runS (As := [.int v1, .int 1]) (rest := []) ⟨hx, hb, hml, hown, hts⟩ (c_X5_within_g l G v1 1 H.size) (va_cwS 2 hts gX5_put_X5_within rfl rfl rfl (by decide +kernel) ⟨Nat.le_of_ble_eq_true rfl, Nat.le_of_ble_eq_true rfl⟩) ⟨gPre_blind, fun U hU hW => gPre_ofF [] hU hW hK hP hD (by decide +kernel) rfl⟩ rfl rfl hl.1 rfl (lv_room (Nat.le_of_ble_eq_true rfl)) dX5_put_16 ⟨Nat.le_of_ble_eq_true rfl, Nat.le_of_ble_eq_true rfl⟩) hS hD hA rfl (fun u t H locs ht hvm hB hz1 hk1 hFq hAq hS => ?_)
    obtain ⟨hP1, hK1, hD1⟩ := hB
    have hP := zKeep hP hD [] hAq hk1 ht hP1 rfl
    refine lv_if_eq (tgt := 31) hx hb dX5_put_19 (by decide +kernel) (fun c_10 => ?_) (fun c_10 => ?_)
    · skip
      have n_12 : ¬ (0 ≤ v1 ∧ v1 ≤ 1) := of_decide_eq_false (bz_eq rfl c_10)
      refine lv_bipush (v := -7) hx hb dX5_put_31 (by decide +kernel) ?_
      have q_15 : m_X5_put_n7 pb fsz v0 v1 v2 = fsz := by unfold m_X5_put_n7; rw [if_pos p_4, if_neg n_12]
      have q_16 : m_X5_put_n8 pb frd v0 v1 v2 = frd := by unfold m_X5_put_n8; rw [if_pos p_4, if_neg n_12]
      have hz9 : gPD G A [zo5 h0 tt rd nw th kp sh tu him, zo0 nw tt n1 n2 n3 n4 n5 n6 n7 n8 (nI jg) (nI pb) (nI lw), zi G n7 6 (m_X5_put_n7 pb fsz v0 v1 v2), zi G n8 6 (m_X5_put_n8 pb frd v0 v1 v2)] H := ⟨by rw [q_15, q_16]; exact hP, by rw [q_15, q_16]; exact hD⟩
      have hP9 := hz9.1
      have hD9 := hz9.2
      have hpost : (fun (r : Int32) (u : Unit) => match u with | _ => r = m_X5_put pb fsz frd v0 v1 v2) (-7) () := (show m_X5_put pb fsz frd v0 v1 v2 = (-7) from by unfold m_X5_put; rw [if_pos p_4, if_neg n_12]).symm
      exact W.iret (v := (-7)) hx hb hr (fun t ht hW => ⟨⟨(-7), (), rfl, hpost, by rw [ht]; exact hP9, va_K.moved hW.alike hK, hD9⟩, hS.F ht⟩) hS.2.2 dX5_put_33
    · skip
      have p_11 : 0 ≤ v1 ∧ v1 ≤ 1 := of_decide_eq_true (bz_ne rfl c_10)
      have hv_13 : v1 = nI (nC v1) := nC_eq p_11.1
      have hk_14 : nC v1 ≤ 1 := nC_le (n := 1) (by omega) p_11
      refine lv_iload_n hx hb dX5_put_22 rfl (lv_at hl 3 rfl) ?_
      refine lv_bipush (v := 99) hx hb dX5_put_23 (by decide +kernel) ?_
      refine z_calli [] (v := bz (decide (0 ≤ v2 ∧ v2 ≤ 99))) (fun _ _ h => h) (va_runS (As := [.int v2, .int 99]) (rest := []) ⟨hx, hb, hml, hown, hts⟩ (c_X5_within_g l G v2 99 H.size) (va_cwS 2 hts gX5_put_X5_within rfl rfl rfl (by decide +kernel) ⟨Nat.le_of_ble_eq_true rfl, Nat.le_of_ble_eq_true rfl⟩) ⟨gPre_blind, fun U hU hW => gPre_ofF [] hU hW hK hP hD (by decide +kernel) rfl⟩ rfl rfl hl.1 rfl (lv_room (Nat.le_of_ble_eq_true rfl)) dX5_put_25 ⟨Nat.le_of_ble_eq_true rfl, Nat.le_of_ble_eq_true rfl⟩) hS hD hA rfl (fun u t H locs ht hvm hB hz1 hk1 hFq hAq hS => ?_)
      obtain ⟨hP1, hK1, hD1⟩ := hB
      have hP := zKeep hP hD [] hAq hk1 ht hP1 rfl
      refine lv_if_ne (tgt := 34) hx hb dX5_put_28 (by decide +kernel) (fun c_19 => ?_) (fun c_19 => ?_)
      · skip
        have p_20 : 0 ≤ v2 ∧ v2 ≤ 99 := of_decide_eq_true (bz_ne rfl c_19)
        have hv_22 : v2 = nI (nC v2) := nC_eq p_20.1
        have hk_23 : nC v2 ≤ 99 := nC_le (n := 99) (by omega) p_20
        refine lv_iload_n hx hb dX5_put_34 rfl (lv_at hl 2 rfl) ?_
        refine g_topi (y := nI (nC v1)) hv_13 ?_
        refine lv_if_ne (tgt := 48) hx hb dX5_put_35 (by decide +kernel) (fun c_25 => ?_) (fun c_25 => ?_)
        · skip
          have c_25N : ¬ (nC v1) = 0 := nI_eq0 (a := (nC v1)) (b := 0) (by omega) (by omega) c_25
          refine g_aget (D := G.1) (ci := 5) (v := .ref nw) (C := RX5) (T := TX5) (N := 8) hx hb dX5_put_48 rfl (lv_at hl 0 rfl) hts hiX5 hown hK hP 0 rfl rfl 2 (by decide +kernel) kf28 (fun _ h9 => h9) rfl dX5_put_49 ?_
          refine va_get (D := G.1) (ci := 0) (v := .ref n8) (C := RX0) (T := TX0) (N := 12) hx hb hts hiX0 hown hK hP 1 rfl rfl 8 (by decide +kernel) kf125 (fun _ h9 => h9) rfl dX5_put_52 ?_
          refine lv_astore (lv' := [zR 4 n8, zR 0 h0, zI 1 v0, zI 2 v1, zI 3 v2]) hx hb dX5_put_55 hl (by decide +kernel) rfl (fun ls hl => ?_)
          refine lv_aload hx hb dX5_put_57 (lv_at hl 0 rfl) ?_
          refine lv_iload_n hx hb dX5_put_59 rfl (lv_at hl 2 rfl) ?_
          refine g_topi (y := nI (nC v0)) hv_6 ?_
          refine g_iald (D := G.1) hx hb hK hP 3 0 rfl rfl (k := nC v0) (y := frd (nC v0)) (by omega) rfl rfl dX5_put_60 ?_
          refine lv_istore (lv' := [zI 5 (frd (nC v0)), zR 4 n8, zR 0 h0, zI 1 v0, zI 2 v1, zI 3 v2]) hx hb dX5_put_61 hl (by decide +kernel) rfl (fun ls hl => ?_)
          refine lv_aload hx hb dX5_put_63 (lv_at hl 1 rfl) ?_
          refine lv_iload_n hx hb dX5_put_65 rfl (lv_at hl 3 rfl) ?_
          refine g_topi (y := nI (nC v0)) hv_6 ?_
          refine lv_iload_n hx hb dX5_put_66 rfl (lv_at hl 5 rfl) ?_
          refine g_topi (y := nI (nC v2)) hv_22 ?_
          refine g_iast (D := G.1) hx hb hK hP hD hS 3 0 rfl rfl (k := nC v0) (x := (nI (nC v2))) (by omega) rfl dX5_put_67 (fun H locs hP hD hS => ?_)
          have hz9 : gPD G A [zo5 h0 tt rd nw th kp sh tu him, zo0 nw tt n1 n2 n3 n4 n5 n6 n7 n8 (nI jg) (nI pb) (nI lw), zi G n7 6 fsz, zi G n8 6 (upd frd (nC v0) (nI (nC v2)))] H := ⟨hP, hD⟩
          have hP := hz9.1
          have hD := hz9.2
          refine lv_iload hx hb dX5_put_68 (lv_at hl 0 rfl) ?_
          have q_30 : m_X5_put_n7 pb fsz v0 v1 v2 = fsz := by unfold m_X5_put_n7; rw [if_pos p_4, if_pos p_11, if_pos p_20, if_neg c_25]
          have q_31 : m_X5_put_n8 pb frd v0 v1 v2 = upd frd (nC v0) (nI (nC v2)) := by unfold m_X5_put_n8; rw [if_pos p_4, if_pos p_11, if_pos p_20, if_neg c_25]
          have hz9 : gPD G A [zo5 h0 tt rd nw th kp sh tu him, zo0 nw tt n1 n2 n3 n4 n5 n6 n7 n8 (nI jg) (nI pb) (nI lw), zi G n7 6 (m_X5_put_n7 pb fsz v0 v1 v2), zi G n8 6 (m_X5_put_n8 pb frd v0 v1 v2)] H := ⟨by rw [q_30, q_31]; exact hP, by rw [q_30, q_31]; exact hD⟩
          have hP9 := hz9.1
          have hD9 := hz9.2
          have hpost : (fun (r : Int32) (u : Unit) => match u with | _ => r = m_X5_put pb fsz frd v0 v1 v2) (frd (nC v0)) () := (show m_X5_put pb fsz frd v0 v1 v2 = (frd (nC v0)) from by unfold m_X5_put; rw [if_pos p_4, if_pos p_11, if_pos p_20, if_neg c_25]).symm
          exact W.iret (v := (frd (nC v0))) hx hb hr (fun t ht hW => ⟨⟨(frd (nC v0)), (), rfl, hpost, by rw [ht]; exact hP9, va_K.moved hW.alike hK, hD9⟩, hS.F ht⟩) hS.2.2 dX5_put_70
        · skip
          have c_25N : (nC v1) = 0 := nI_eq1 (a := (nC v1)) (b := 0) (by omega) (by omega) c_25
          refine g_aget (D := G.1) (ci := 5) (v := .ref nw) (C := RX5) (T := TX5) (N := 8) hx hb dX5_put_38 rfl (lv_at hl 0 rfl) hts hiX5 hown hK hP 0 rfl rfl 2 (by decide +kernel) kf28 (fun _ h9 => h9) rfl dX5_put_39 ?_
          refine va_get (D := G.1) (ci := 0) (v := .ref n7) (C := RX0) (T := TX0) (N := 12) hx hb hts hiX0 hown hK hP 1 rfl rfl 7 (by decide +kernel) kf122 (fun _ h9 => h9) rfl dX5_put_42 ?_
          refine lv_goto (tgt := 55) hx hb dX5_put_45 (by decide +kernel) ?_
          refine lv_astore (lv' := [zR 4 n7, zR 0 h0, zI 1 v0, zI 2 v1, zI 3 v2]) hx hb dX5_put_55 hl (by decide +kernel) rfl (fun ls hl => ?_)
          refine lv_aload hx hb dX5_put_57 (lv_at hl 0 rfl) ?_
          refine lv_iload_n hx hb dX5_put_59 rfl (lv_at hl 2 rfl) ?_
          refine g_topi (y := nI (nC v0)) hv_6 ?_
          refine g_iald (D := G.1) hx hb hK hP 2 0 rfl rfl (k := nC v0) (y := fsz (nC v0)) (by omega) rfl rfl dX5_put_60 ?_
          refine lv_istore (lv' := [zI 5 (fsz (nC v0)), zR 4 n7, zR 0 h0, zI 1 v0, zI 2 v1, zI 3 v2]) hx hb dX5_put_61 hl (by decide +kernel) rfl (fun ls hl => ?_)
          refine lv_aload hx hb dX5_put_63 (lv_at hl 1 rfl) ?_
          refine lv_iload_n hx hb dX5_put_65 rfl (lv_at hl 3 rfl) ?_
          refine g_topi (y := nI (nC v0)) hv_6 ?_
          refine lv_iload_n hx hb dX5_put_66 rfl (lv_at hl 5 rfl) ?_
          refine g_topi (y := nI (nC v2)) hv_22 ?_
          refine g_iast (D := G.1) hx hb hK hP hD hS 2 0 rfl rfl (k := nC v0) (x := (nI (nC v2))) (by omega) rfl dX5_put_67 (fun H locs hP hD hS => ?_)
          have hz9 : gPD G A [zo5 h0 tt rd nw th kp sh tu him, zo0 nw tt n1 n2 n3 n4 n5 n6 n7 n8 (nI jg) (nI pb) (nI lw), zi G n7 6 (upd fsz (nC v0) (nI (nC v2))), zi G n8 6 frd] H := ⟨hP, hD⟩
          have hP := hz9.1
          have hD := hz9.2
          refine lv_iload hx hb dX5_put_68 (lv_at hl 0 rfl) ?_
          have q_36 : m_X5_put_n7 pb fsz v0 v1 v2 = upd fsz (nC v0) (nI (nC v2)) := by unfold m_X5_put_n7; rw [if_pos p_4, if_pos p_11, if_pos p_20, if_pos c_25]
          have q_37 : m_X5_put_n8 pb frd v0 v1 v2 = frd := by unfold m_X5_put_n8; rw [if_pos p_4, if_pos p_11, if_pos p_20, if_pos c_25]
          have hz9 : gPD G A [zo5 h0 tt rd nw th kp sh tu him, zo0 nw tt n1 n2 n3 n4 n5 n6 n7 n8 (nI jg) (nI pb) (nI lw), zi G n7 6 (m_X5_put_n7 pb fsz v0 v1 v2), zi G n8 6 (m_X5_put_n8 pb frd v0 v1 v2)] H := ⟨by rw [q_36, q_37]; exact hP, by rw [q_36, q_37]; exact hD⟩
          have hP9 := hz9.1
          have hD9 := hz9.2
          have hpost : (fun (r : Int32) (u : Unit) => match u with | _ => r = m_X5_put pb fsz frd v0 v1 v2) (fsz (nC v0)) () := (show m_X5_put pb fsz frd v0 v1 v2 = (fsz (nC v0)) from by unfold m_X5_put; rw [if_pos p_4, if_pos p_11, if_pos p_20, if_pos c_25]).symm
          exact W.iret (v := (fsz (nC v0))) hx hb hr (fun t ht hW => ⟨⟨(fsz (nC v0)), (), rfl, hpost, by rw [ht]; exact hP9, va_K.moved hW.alike hK, hD9⟩, hS.F ht⟩) hS.2.2 dX5_put_70
      · skip
        have n_21 : ¬ (0 ≤ v2 ∧ v2 ≤ 99) := of_decide_eq_false (bz_eq rfl c_19)
        refine lv_bipush (v := -7) hx hb dX5_put_31 (by decide +kernel) ?_
        have q_38 : m_X5_put_n7 pb fsz v0 v1 v2 = fsz := by unfold m_X5_put_n7; rw [if_pos p_4, if_pos p_11, if_neg n_21]
        have q_39 : m_X5_put_n8 pb frd v0 v1 v2 = frd := by unfold m_X5_put_n8; rw [if_pos p_4, if_pos p_11, if_neg n_21]
        have hz9 : gPD G A [zo5 h0 tt rd nw th kp sh tu him, zo0 nw tt n1 n2 n3 n4 n5 n6 n7 n8 (nI jg) (nI pb) (nI lw), zi G n7 6 (m_X5_put_n7 pb fsz v0 v1 v2), zi G n8 6 (m_X5_put_n8 pb frd v0 v1 v2)] H := ⟨by rw [q_38, q_39]; exact hP, by rw [q_38, q_39]; exact hD⟩
        have hP9 := hz9.1
        have hD9 := hz9.2
        have hpost : (fun (r : Int32) (u : Unit) => match u with | _ => r = m_X5_put pb fsz frd v0 v1 v2) (-7) () := (show m_X5_put pb fsz frd v0 v1 v2 = (-7) from by unfold m_X5_put; rw [if_pos p_4, if_pos p_11, if_neg n_21]).symm
        exact W.iret (v := (-7)) hx hb hr (fun t ht hW => ⟨⟨(-7), (), rfl, hpost, by rw [ht]; exact hP9, va_K.moved hW.alike hK, hD9⟩, hS.F ht⟩) hS.2.2 dX5_put_33
  · skip
    have n_5 : (mHas pb v0) = false := bz_eq rfl c_3
    have n_5N : ¬ ((mHas pb v0) = true) := by rw [n_5]; decide
    refine lv_bipush (v := -5) hx hb dX5_put_11 (by decide +kernel) ?_
    have q_40 : m_X5_put_n7 pb fsz v0 v1 v2 = fsz := by unfold m_X5_put_n7; rw [if_neg n_5N]
    have q_41 : m_X5_put_n8 pb frd v0 v1 v2 = frd := by unfold m_X5_put_n8; rw [if_neg n_5N]
    have hz9 : gPD G A [zo5 h0 tt rd nw th kp sh tu him, zo0 nw tt n1 n2 n3 n4 n5 n6 n7 n8 (nI jg) (nI pb) (nI lw), zi G n7 6 (m_X5_put_n7 pb fsz v0 v1 v2), zi G n8 6 (m_X5_put_n8 pb frd v0 v1 v2)] H := ⟨by rw [q_40, q_41]; exact hP, by rw [q_40, q_41]; exact hD⟩
    have hP9 := hz9.1
    have hD9 := hz9.2
    have hpost : (fun (r : Int32) (u : Unit) => match u with | _ => r = m_X5_put pb fsz frd v0 v1 v2) (-5) () := (show m_X5_put pb fsz frd v0 v1 v2 = (-5) from by unfold m_X5_put; rw [if_neg n_5N]).symm
    exact W.iret (v := (-5)) hx hb hr (fun t ht hW => ⟨⟨(-5), (), rfl, hpost, by rw [ht]; exact hP9, va_K.moved hW.alike hK, hD9⟩, hS.F ht⟩) hS.2.2 dX5_put_13
noncomputable def m_X5_told (pb : Nat) (fki : Nat → Int32) (fmo : Nat → Int32) (fsz : Nat → Int32) (frd : Nat → Int32) (v0 : Int32) (v1 : Int32) : Int32 := if (mHas pb v0) = true then (if v1 = 0 then fki (nC v0) else (if v1 = 1 then fmo (nC v0) else (if v1 = 2 then fsz (nC v0) else (if v1 = 3 then frd (nC v0) else (if v1 = 4 then (if (m_X0_isSand (nC v0) fki fmo fsz) = 0 then 0 else 1) else -7))))) else -5
abbrev q_X5_told (G : gG) (h0 tt rd nw th kp sh tu n1 n2 n3 n4 n5 n6 n7 n8 : Nat) (jg : Nat) (pb : Nat) (lw : Nat) (him : Int32) (fki : Nat → Int32) (fmo : Nat → Int32) (fsz : Nat → Int32) (frd : Nat → Int32) (v0 : Int32) (v1 : Int32) (A : Nat → Prop) : Array Value → State → Outcome → State → Prop := va_Qi (fun (r : Int32) (u : Unit) => match u with | _ => r = m_X5_told pb fki fmo fsz frd v0 v1) (fun (u : Unit) t => match u with | _ => va_P G.1 vwCl [zo5 h0 tt rd nw th kp sh tu him, zo0 nw tt n1 n2 n3 n4 n5 n6 n7 n8 (nI jg) (nI pb) (nI lw), zi G n5 6 fki, zi G n6 6 fmo, zi G n7 6 fsz, zi G n8 6 frd] t.heap ∧ gK G t ∧ va_D A [zo5 h0 tt rd nw th kp sh tu him, zo0 nw tt n1 n2 n3 n4 n5 n6 n7 n8 (nI jg) (nI pb) (nI lw), zi G n5 6 fki, zi G n6 6 fmo, zi G n7 6 fsz, zi G n8 6 frd]) A
set_option maxHeartbeats 4000000 in
set_option maxRecDepth 100000 in
theorem c_X5_told (l : Launch) (G : gG) (h0 tt rd nw th kp sh tu n1 n2 n3 n4 n5 n6 n7 n8 : Nat) (jg : Nat) (pb : Nat) (lw : Nat) (him : Int32) (fki : Nat → Int32) (fmo : Nat → Int32) (fsz : Nat → Int32) (frd : Nat → Int32) (v0 : Int32) (v1 : Int32) (sz : Nat) (hjg : jg ≤ 4) (hpb : pb ≤ 6) : Met l yX5_told wsX5_told ({ frames := 1, cells := 0, slots := 0, locals := 21 }) (gPre G [.ref h0, .int v0, .int v1] [zo5 h0 tt rd nw th kp sh tu him, zo0 nw tt n1 n2 n3 n4 n5 n6 n7 n8 (nI jg) (nI pb) (nI lw), zi G n5 6 fki, zi G n6 6 fmo, zi G n7 6 fsz, zi G n8 6 frd] sz) (q_X5_told G h0 tt rd nw th kp sh tu n1 n2 n3 n4 n5 n6 n7 n8 jg pb lw him fki fmo fsz frd v0 v1 (va_A [zo5 h0 tt rd nw th kp sh tu him, zo0 nw tt n1 n2 n3 n4 n5 n6 n7 n8 (nI jg) (nI pb) (nI lw), zi G n5 6 fki, zi G n6 6 fmo, zi G n7 6 fsz, zi G n8 6 frd] sz)) 0 0 (va_A [zo5 h0 tt rd nw th kp sh tu him, zo0 nw tt n1 n2 n3 n4 n5 n6 n7 n8 (nI jg) (nI pb) (nI lw), zi G n5 6 fki, zi G n6 6 fmo, zi G n7 6 fsz, zi G n8 6 frd] sz) := by
  refine Met.ofW (cc := cX5_told) (maxL := 3) (ret := (some .int)) (by decide +kernel) rfl ?_
  intro p e s m args below meth c s₁ B hml hv
  obtain ⟨rfl, hsz, hP, hK, hD0⟩ := hv
  have hx := B.exec
  have hb := B.bytes
  have hr := B.returns
  have hts := atoms_spec (ws := wsX5_told) B.pre
  have hown : s.vm.findClass RX5 = some m.cls := findClass_of_methodNamed B.named
  have hlocks := B.notSynchronized
  subst hsz
  have hD := hD0.self (sz := s.heap.size)
  generalize hAe : va_A [zo5 h0 tt rd nw th kp sh tu him, zo0 nw tt n1 n2 n3 n4 n5 n6 n7 n8 (nI jg) (nI pb) (nI lw), zi G n5 6 fki, zi G n6 6 fmo, zi G n7 6 fsz, zi G n8 6 frd] s.heap.size = A at hD ⊢
  have hA : ∀ q : Nat, s.heap.size ≤ q → A q := fun q h => by rw [← hAe]; exact Or.inr h
  have hS : va_S A s.heap s.heap [] := va_S.rf
  have hz9 : gPD G A [zo5 h0 tt rd nw th kp sh tu him, zo0 nw tt n1 n2 n3 n4 n5 n6 n7 n8 (nI jg) (nI pb) (nI lw), zi G n5 6 fki, zi G n6 6 fmo, zi G n7 6 fsz, zi G n8 6 frd] s.heap := ⟨hP, hD⟩
  have hP := hz9.1
  have hD := hz9.2
  have hl := lv_entry ([.ref h0, .int v0, .int v1]) (n := 3) (Nat.le_of_ble_eq_true rfl)
  rw [lg_entry_eq]
  generalize (lg_sl ([.ref h0, .int v0, .int v1]) ++ List.replicate (3 - (lg_sl ([.ref h0, .int v0, .int v1])).length) Slot.unset).toArray = ls at hl ⊢
  have hl : lv_has ls 3 [zR 0 h0, zI 1 v0, zI 2 v1] := hl
  have kf28 := hts (.fieldLink RX5 28 "PebbleInShoe" "now" "LPebbleInShoe$Court;") (by decide +kernel)
  have hiX5 := (by decide +kernel : ∀ w ∈ wsX50, w ∈ wsX5_told)
  have kf128 := hts (.fieldLink RX5 128 "PebbleInShoe$Court" "kind" "[I") (by decide +kernel)
  have hiX0 := (by decide +kernel : ∀ w ∈ wsX00, w ∈ wsX5_told)
  have kf131 := hts (.fieldLink RX5 131 "PebbleInShoe$Court" "more" "[I") (by decide +kernel)
  have kf122 := hts (.fieldLink RX5 122 "PebbleInShoe$Court" "size" "[I") (by decide +kernel)
  have kf125 := hts (.fieldLink RX5 125 "PebbleInShoe$Court" "round" "[I") (by decide +kernel)
  refine g_aget (D := G.1) (ci := 5) (v := .ref nw) (C := RX5) (T := TX5) (N := 8) hx hb dX5_told_0 rfl (lv_at hl 0 rfl) hts hiX5 hown hK hP 0 rfl rfl 2 (by decide +kernel) kf28 (fun _ h9 => h9) rfl dX5_told_1 ?_
  refine lv_iload_n hx hb dX5_told_4 rfl (lv_at hl 1 rfl) ?_
  refine z_calli [1] (v := bz (mHas pb v0)) (fun _ _ h => h) (va_runV (As := [.int v0]) (rest := []) ⟨hx, hb, hml, hown, hts⟩ (c_X0_hasPebble_g l G nw tt n1 n2 n3 n4 n5 n6 n7 n8 jg pb lw v0 s.heap.size (by first | exact hjg | assumption | omega) (by first | exact hpb | assumption | omega)) (cwV 1 hts gX5_told_X0_hasPebble rfl rfl rfl (by decide +kernel) ⟨Nat.le_of_ble_eq_true rfl, Nat.le_of_ble_eq_true rfl⟩) ⟨gPre_blind, va_recv (q := (RX0, TX0, 12)) hK hP (ci := 0) (q0 := 1) rfl rfl, fun U hU hW => gPre_ofF [1] hU hW hK hP hD (by decide +kernel) rfl⟩ rfl rfl hl.1 rfl (lv_room (Nat.le_of_ble_eq_true rfl)) dX5_told_5 ⟨Nat.le_of_ble_eq_true rfl, Nat.le_of_ble_eq_true rfl⟩) hS hD hA rfl (fun u t H locs ht hvm hB hz1 hk1 hFq hAq hS => ?_)
  obtain ⟨hP1, hK1, hD1⟩ := hB
  have hP := zKeep hP hD [1] hAq hk1 ht hP1 rfl
  refine lv_if_ne (tgt := 14) hx hb dX5_told_8 (by decide +kernel) (fun c_3 => ?_) (fun c_3 => ?_)
  · skip
    have p_4 : (mHas pb v0) = true := bz_ne rfl c_3
    have hv_6 : v0 = nI (nC v0) := mHas_eq p_4
    have hk_7 : nC v0 < pb := mHas_lt (by omega) p_4
    refine lv_iload_n hx hb dX5_told_14 rfl (lv_at hl 2 rfl) ?_
    by_cases s_8 : v1 = 0
    · skip
      refine lv_tableIn (off := 33) (tgt := 48) hx hb dX5_told_15 (by rw [s_8]; decide) (by rw [s_8]; decide) (by rw [s_8]; decide) (by decide +kernel) ?_
      refine g_aget (D := G.1) (ci := 5) (v := .ref nw) (C := RX5) (T := TX5) (N := 8) hx hb dX5_told_48 rfl (lv_at hl 0 rfl) hts hiX5 hown hK hP 0 rfl rfl 2 (by decide +kernel) kf28 (fun _ h9 => h9) rfl dX5_told_49 ?_
      refine va_get (D := G.1) (ci := 0) (v := .ref n5) (C := RX0) (T := TX0) (N := 12) hx hb hts hiX0 hown hK hP 1 rfl rfl 5 (by decide +kernel) kf128 (fun _ h9 => h9) rfl dX5_told_52 ?_
      refine lv_iload_n hx hb dX5_told_55 rfl (lv_at hl 1 rfl) ?_
      refine g_topi (y := nI (nC v0)) hv_6 ?_
      refine g_iald (D := G.1) hx hb hK hP 2 0 rfl rfl (k := nC v0) (y := fki (nC v0)) (by omega) rfl rfl dX5_told_56 ?_
      have hpost : (fun (r : Int32) (u : Unit) => match u with | _ => r = m_X5_told pb fki fmo fsz frd v0 v1) (fki (nC v0)) () := (show m_X5_told pb fki fmo fsz frd v0 v1 = (fki (nC v0)) from by unfold m_X5_told; rw [if_pos p_4, if_pos s_8]).symm
      exact W.iret (v := (fki (nC v0))) hx hb hr (fun t ht hW => ⟨⟨(fki (nC v0)), (), rfl, hpost, by rw [ht]; exact hP, va_K.moved hW.alike hK, hD⟩, hS.F ht⟩) hS.2.2 dX5_told_57
    by_cases s_11 : v1 = 1
    · skip
      refine lv_tableIn (off := 43) (tgt := 58) hx hb dX5_told_15 (by rw [s_11]; decide) (by rw [s_11]; decide) (by rw [s_11]; decide) (by decide +kernel) ?_
      refine g_aget (D := G.1) (ci := 5) (v := .ref nw) (C := RX5) (T := TX5) (N := 8) hx hb dX5_told_58 rfl (lv_at hl 0 rfl) hts hiX5 hown hK hP 0 rfl rfl 2 (by decide +kernel) kf28 (fun _ h9 => h9) rfl dX5_told_59 ?_
      refine va_get (D := G.1) (ci := 0) (v := .ref n6) (C := RX0) (T := TX0) (N := 12) hx hb hts hiX0 hown hK hP 1 rfl rfl 6 (by decide +kernel) kf131 (fun _ h9 => h9) rfl dX5_told_62 ?_
      refine lv_iload_n hx hb dX5_told_65 rfl (lv_at hl 1 rfl) ?_
      refine g_topi (y := nI (nC v0)) hv_6 ?_
      refine g_iald (D := G.1) hx hb hK hP 3 0 rfl rfl (k := nC v0) (y := fmo (nC v0)) (by omega) rfl rfl dX5_told_66 ?_
      have hpost : (fun (r : Int32) (u : Unit) => match u with | _ => r = m_X5_told pb fki fmo fsz frd v0 v1) (fmo (nC v0)) () := (show m_X5_told pb fki fmo fsz frd v0 v1 = (fmo (nC v0)) from by unfold m_X5_told; rw [if_pos p_4, if_neg s_8, if_pos s_11]).symm
      exact W.iret (v := (fmo (nC v0))) hx hb hr (fun t ht hW => ⟨⟨(fmo (nC v0)), (), rfl, hpost, by rw [ht]; exact hP, va_K.moved hW.alike hK, hD⟩, hS.F ht⟩) hS.2.2 dX5_told_67
    by_cases s_14 : v1 = 2
    · skip
      refine lv_tableIn (off := 53) (tgt := 68) hx hb dX5_told_15 (by rw [s_14]; decide) (by rw [s_14]; decide) (by rw [s_14]; decide) (by decide +kernel) ?_
      refine g_aget (D := G.1) (ci := 5) (v := .ref nw) (C := RX5) (T := TX5) (N := 8) hx hb dX5_told_68 rfl (lv_at hl 0 rfl) hts hiX5 hown hK hP 0 rfl rfl 2 (by decide +kernel) kf28 (fun _ h9 => h9) rfl dX5_told_69 ?_
      refine va_get (D := G.1) (ci := 0) (v := .ref n7) (C := RX0) (T := TX0) (N := 12) hx hb hts hiX0 hown hK hP 1 rfl rfl 7 (by decide +kernel) kf122 (fun _ h9 => h9) rfl dX5_told_72 ?_
      refine lv_iload_n hx hb dX5_told_75 rfl (lv_at hl 1 rfl) ?_
      refine g_topi (y := nI (nC v0)) hv_6 ?_
      refine g_iald (D := G.1) hx hb hK hP 4 0 rfl rfl (k := nC v0) (y := fsz (nC v0)) (by omega) rfl rfl dX5_told_76 ?_
      have hpost : (fun (r : Int32) (u : Unit) => match u with | _ => r = m_X5_told pb fki fmo fsz frd v0 v1) (fsz (nC v0)) () := (show m_X5_told pb fki fmo fsz frd v0 v1 = (fsz (nC v0)) from by unfold m_X5_told; rw [if_pos p_4, if_neg s_8, if_neg s_11, if_pos s_14]).symm
      exact W.iret (v := (fsz (nC v0))) hx hb hr (fun t ht hW => ⟨⟨(fsz (nC v0)), (), rfl, hpost, by rw [ht]; exact hP, va_K.moved hW.alike hK, hD⟩, hS.F ht⟩) hS.2.2 dX5_told_77
    by_cases s_17 : v1 = 3
    · skip
      refine lv_tableIn (off := 63) (tgt := 78) hx hb dX5_told_15 (by rw [s_17]; decide) (by rw [s_17]; decide) (by rw [s_17]; decide) (by decide +kernel) ?_
      refine g_aget (D := G.1) (ci := 5) (v := .ref nw) (C := RX5) (T := TX5) (N := 8) hx hb dX5_told_78 rfl (lv_at hl 0 rfl) hts hiX5 hown hK hP 0 rfl rfl 2 (by decide +kernel) kf28 (fun _ h9 => h9) rfl dX5_told_79 ?_
      refine va_get (D := G.1) (ci := 0) (v := .ref n8) (C := RX0) (T := TX0) (N := 12) hx hb hts hiX0 hown hK hP 1 rfl rfl 8 (by decide +kernel) kf125 (fun _ h9 => h9) rfl dX5_told_82 ?_
      refine lv_iload_n hx hb dX5_told_85 rfl (lv_at hl 1 rfl) ?_
      refine g_topi (y := nI (nC v0)) hv_6 ?_
      refine g_iald (D := G.1) hx hb hK hP 5 0 rfl rfl (k := nC v0) (y := frd (nC v0)) (by omega) rfl rfl dX5_told_86 ?_
      have hpost : (fun (r : Int32) (u : Unit) => match u with | _ => r = m_X5_told pb fki fmo fsz frd v0 v1) (frd (nC v0)) () := (show m_X5_told pb fki fmo fsz frd v0 v1 = (frd (nC v0)) from by unfold m_X5_told; rw [if_pos p_4, if_neg s_8, if_neg s_11, if_neg s_14, if_pos s_17]).symm
      exact W.iret (v := (frd (nC v0))) hx hb hr (fun t ht hW => ⟨⟨(frd (nC v0)), (), rfl, hpost, by rw [ht]; exact hP, va_K.moved hW.alike hK, hD⟩, hS.F ht⟩) hS.2.2 dX5_told_87
    by_cases s_20 : v1 = 4
    · skip
      refine lv_tableIn (off := 73) (tgt := 88) hx hb dX5_told_15 (by rw [s_20]; decide) (by rw [s_20]; decide) (by rw [s_20]; decide) (by decide +kernel) ?_
      refine g_aget (D := G.1) (ci := 5) (v := .ref nw) (C := RX5) (T := TX5) (N := 8) hx hb dX5_told_88 rfl (lv_at hl 0 rfl) hts hiX5 hown hK hP 0 rfl rfl 2 (by decide +kernel) kf28 (fun _ h9 => h9) rfl dX5_told_89 ?_
      refine lv_iload_n hx hb dX5_told_92 rfl (lv_at hl 1 rfl) ?_
      refine g_topi (y := nI (nC v0)) hv_6 ?_
      refine z_calli [1, 2, 3, 4] (v := m_X0_isSand (nC v0) fki fmo fsz) (fun _ _ h => h) (va_runV (As := [.int (nI (nC v0))]) (rest := []) ⟨hx, hb, hml, hown, hts⟩ (c_X0_isSand l G nw tt n1 n2 n3 n4 n5 n6 n7 n8 lw (nC v0) (nI jg) (nI pb) fki fmo fsz H.size (by first | exact hp | assumption | omega)) (cwV 1 hts gX5_told_X0_isSand rfl rfl rfl (by decide +kernel) ⟨Nat.le_of_ble_eq_true rfl, Nat.le_of_ble_eq_true rfl⟩) ⟨gPre_blind, va_recv (q := (RX0, TX0, 12)) hK hP (ci := 0) (q0 := 1) rfl rfl, fun U hU hW => gPre_ofF [1, 2, 3, 4] hU hW hK hP hD (by decide +kernel) rfl⟩ rfl rfl hl.1 rfl (lv_room (Nat.le_of_ble_eq_true rfl)) dX5_told_93 ⟨Nat.le_of_ble_eq_true rfl, Nat.le_of_ble_eq_true rfl⟩) hS hD hA rfl (fun u t H locs ht hvm hB hz1 hk1 hFq hAq hS => ?_)
      obtain ⟨hP1, hK1, hD1⟩ := hB
      have hP := zKeep hP hD [1, 2, 3, 4] hAq hk1 ht hP1 rfl
      refine lv_if_eq (tgt := 103) hx hb dX5_told_96 (by decide +kernel) (fun c_24 => ?_) (fun c_24 => ?_)
      · skip
        refine lv_iconst (v := 0) hx hb dX5_told_103 (by decide +kernel) ?_
        have hpost : (fun (r : Int32) (u : Unit) => match u with | _ => r = m_X5_told pb fki fmo fsz frd v0 v1) 0 () := (show m_X5_told pb fki fmo fsz frd v0 v1 = 0 from by unfold m_X5_told; rw [if_pos p_4, if_neg s_8, if_neg s_11, if_neg s_14, if_neg s_17, if_pos s_20, if_pos c_24]).symm
        exact W.iret (v := 0) hx hb hr (fun t ht hW => ⟨⟨0, (), rfl, hpost, by rw [ht]; exact hP, va_K.moved hW.alike hK, hD⟩, hS.F ht⟩) hS.2.2 dX5_told_104
      · skip
        refine lv_iconst (v := 1) hx hb dX5_told_99 (by decide +kernel) ?_
        refine lv_goto (tgt := 104) hx hb dX5_told_100 (by decide +kernel) ?_
        have hpost : (fun (r : Int32) (u : Unit) => match u with | _ => r = m_X5_told pb fki fmo fsz frd v0 v1) 1 () := (show m_X5_told pb fki fmo fsz frd v0 v1 = 1 from by unfold m_X5_told; rw [if_pos p_4, if_neg s_8, if_neg s_11, if_neg s_14, if_neg s_17, if_pos s_20, if_neg c_24]).symm
        exact W.iret (v := 1) hx hb hr (fun t ht hW => ⟨⟨1, (), rfl, hpost, by rw [ht]; exact hP, va_K.moved hW.alike hK, hD⟩, hS.F ht⟩) hS.2.2 dX5_told_104
    have s_8T := lv_neT (a := 0) s_8 (by decide +kernel)
    have s_11T := lv_neT (a := 1) s_11 (by decide +kernel)
    have s_14T := lv_neT (a := 2) s_14 (by decide +kernel)
    have s_17T := lv_neT (a := 3) s_17 (by decide +kernel)
    have s_20T := lv_neT (a := 4) s_20 (by decide +kernel)
    refine lv_tableOut (tgt := 105) hx hb dX5_told_15 (by omega) (by decide +kernel) ?_
    refine lv_bipush (v := -7) hx hb dX5_told_105 (by decide +kernel) ?_
    have hpost : (fun (r : Int32) (u : Unit) => match u with | _ => r = m_X5_told pb fki fmo fsz frd v0 v1) (-7) () := (show m_X5_told pb fki fmo fsz frd v0 v1 = (-7) from by unfold m_X5_told; rw [if_pos p_4, if_neg s_8, if_neg s_11, if_neg s_14, if_neg s_17, if_neg s_20]).symm
    exact W.iret (v := (-7)) hx hb hr (fun t ht hW => ⟨⟨(-7), (), rfl, hpost, by rw [ht]; exact hP, va_K.moved hW.alike hK, hD⟩, hS.F ht⟩) hS.2.2 dX5_told_107
  · skip
    have n_5 : (mHas pb v0) = false := bz_eq rfl c_3
    have n_5N : ¬ ((mHas pb v0) = true) := by rw [n_5]; decide
    refine lv_bipush (v := -5) hx hb dX5_told_11 (by decide +kernel) ?_
    have hpost : (fun (r : Int32) (u : Unit) => match u with | _ => r = m_X5_told pb fki fmo fsz frd v0 v1) (-5) () := (show m_X5_told pb fki fmo fsz frd v0 v1 = (-5) from by unfold m_X5_told; rw [if_neg n_5N]).symm
    exact W.iret (v := (-5)) hx hb hr (fun t ht hW => ⟨⟨(-5), (), rfl, hpost, by rw [ht]; exact hP, va_K.moved hW.alike hK, hD⟩, hS.F ht⟩) hS.2.2 dX5_told_13
noncomputable def m_X5_walk (jg : Nat) (pb : Nat) (fet : Nat → Nat) (fso : Nat → Int32) (fmi : Nat → Int32) (fpa : Nat → Int32) (fki : Nat → Int32) (fmo : Nat → Int32) (fsz : Nat → Int32) (frd : Nat → Int32) (fct : Nat → Int32) (v0 : Int32) (v1 : Int32) (v2 : Int32) : Int32 := if (mBoth jg pb v0 v1) = true then (if 0 ≤ v2 ∧ v2 ≤ 60 then (if ((fmi (nC v0)) + (nI (nC v2))) ≤ 999 then m_X0_go (nC v0) (nC v1) (nC v2) fso fmi fpa fki fmo fsz frd fct fet else -4) else -7) else -5
noncomputable def m_X5_walk_n2 (jg : Nat) (pb : Nat) (fet : Nat → Nat) (fso : Nat → Int32) (fmi : Nat → Int32) (fpa : Nat → Int32) (fki : Nat → Int32) (fmo : Nat → Int32) (fsz : Nat → Int32) (frd : Nat → Int32) (fct : Nat → Int32) (v0 : Int32) (v1 : Int32) (v2 : Int32) : Nat → Int32 := if (mBoth jg pb v0 v1) = true then (if 0 ≤ v2 ∧ v2 ≤ 60 then (if ((fmi (nC v0)) + (nI (nC v2))) ≤ 999 then (m_X0_go_n2 (nC v0) (nC v1) (nC v2) fso fmi fpa fki fmo fsz frd fct fet) else fso) else fso) else fso
noncomputable def m_X5_walk_n3 (jg : Nat) (pb : Nat) (fet : Nat → Nat) (fso : Nat → Int32) (fmi : Nat → Int32) (fpa : Nat → Int32) (fki : Nat → Int32) (fmo : Nat → Int32) (fsz : Nat → Int32) (frd : Nat → Int32) (fct : Nat → Int32) (v0 : Int32) (v1 : Int32) (v2 : Int32) : Nat → Int32 := if (mBoth jg pb v0 v1) = true then (if 0 ≤ v2 ∧ v2 ≤ 60 then (if ((fmi (nC v0)) + (nI (nC v2))) ≤ 999 then (m_X0_go_n3 (nC v0) (nC v1) (nC v2) fso fmi fpa fki fmo fsz frd fct fet) else fmi) else fmi) else fmi
noncomputable def m_X5_walk_n4 (jg : Nat) (pb : Nat) (fet : Nat → Nat) (fso : Nat → Int32) (fmi : Nat → Int32) (fpa : Nat → Int32) (fki : Nat → Int32) (fmo : Nat → Int32) (fsz : Nat → Int32) (frd : Nat → Int32) (fct : Nat → Int32) (v0 : Int32) (v1 : Int32) (v2 : Int32) : Nat → Int32 := if (mBoth jg pb v0 v1) = true then (if 0 ≤ v2 ∧ v2 ≤ 60 then (if ((fmi (nC v0)) + (nI (nC v2))) ≤ 999 then (m_X0_go_n4 (nC v0) (nC v1) (nC v2) fso fmi fpa fki fmo fsz frd fct fet) else fpa) else fpa) else fpa
noncomputable def m_X5_walk_n7 (jg : Nat) (pb : Nat) (fet : Nat → Nat) (fso : Nat → Int32) (fmi : Nat → Int32) (fpa : Nat → Int32) (fki : Nat → Int32) (fmo : Nat → Int32) (fsz : Nat → Int32) (frd : Nat → Int32) (fct : Nat → Int32) (v0 : Int32) (v1 : Int32) (v2 : Int32) : Nat → Int32 := if (mBoth jg pb v0 v1) = true then (if 0 ≤ v2 ∧ v2 ≤ 60 then (if ((fmi (nC v0)) + (nI (nC v2))) ≤ 999 then (m_X0_go_n7 (nC v0) (nC v1) (nC v2) fso fmi fpa fki fmo fsz frd fct fet) else fsz) else fsz) else fsz
abbrev q_X5_walk (G : gG) (h0 tt rd nw th kp sh tu n1 n2 n3 n4 n5 n6 n7 n8 co en sk ct et : Nat) (jg : Nat) (pb : Nat) (lw : Nat) (tx : Nat) (him : Int32) (wr : Int32) (fc : Nat → Option Nat) (fe : Nat → Option Nat) (fet : Nat → Nat) (fnm : Nat → Int32) (fso : Nat → Int32) (fmi : Nat → Int32) (fpa : Nat → Int32) (fki : Nat → Int32) (fmo : Nat → Int32) (fsz : Nat → Int32) (frd : Nat → Int32) (fct : Nat → Int32) (fsk : Nat → Int32) (v0 : Int32) (v1 : Int32) (v2 : Int32) (A : Nat → Prop) : Array Value → State → Outcome → State → Prop := va_Qi (fun (r : Int32) (u : (Nat → Int32) × (Nat → Int32)) => match u with | (yn1, ysk) => r = m_X5_walk jg pb fet fso fmi fpa fki fmo fsz frd fct v0 v1 v2) (fun (u : (Nat → Int32) × (Nat → Int32)) t => match u with | (yn1, ysk) => va_P G.1 vwCl [zo5 h0 tt rd nw th kp sh tu him, zo0 nw tt n1 n2 n3 n4 n5 n6 n7 n8 (nI (jg)) (nI (pb)) (nI lw), zi G n1 6 yn1, zi G n2 4 (m_X5_walk_n2 jg pb fet fso fmi fpa fki fmo fsz frd fct v0 v1 v2), zi G n3 4 (m_X5_walk_n3 jg pb fet fso fmi fpa fki fmo fsz frd fct v0 v1 v2), zi G n4 4 (m_X5_walk_n4 jg pb fet fso fmi fpa fki fmo fsz frd fct v0 v1 v2), zi G n5 6 fki, zi G n6 6 fmo, zi G n7 6 (m_X5_walk_n7 jg pb fet fso fmi fpa fki fmo fsz frd fct v0 v1 v2), zi G n8 6 frd, zo3 tt co en sk wr (nI tx), zr G co 6 fc, zr G en 6 fe, zi G ct 160 fct, zi G et 3 (nF fet), zi G sk 32 ysk] t.heap ∧ gK G t ∧ va_D A [zo5 h0 tt rd nw th kp sh tu him, zo0 nw tt n1 n2 n3 n4 n5 n6 n7 n8 (nI (jg)) (nI (pb)) (nI lw), zi G n1 6 yn1, zi G n2 4 (m_X5_walk_n2 jg pb fet fso fmi fpa fki fmo fsz frd fct v0 v1 v2), zi G n3 4 (m_X5_walk_n3 jg pb fet fso fmi fpa fki fmo fsz frd fct v0 v1 v2), zi G n4 4 (m_X5_walk_n4 jg pb fet fso fmi fpa fki fmo fsz frd fct v0 v1 v2), zi G n5 6 fki, zi G n6 6 fmo, zi G n7 6 (m_X5_walk_n7 jg pb fet fso fmi fpa fki fmo fsz frd fct v0 v1 v2), zi G n8 6 frd, zo3 tt co en sk wr (nI tx), zr G co 6 fc, zr G en 6 fe, zi G ct 160 fct, zi G et 3 (nF fet), zi G sk 32 ysk]) A
set_option maxHeartbeats 4000000 in
set_option maxRecDepth 100000 in
theorem c_X5_walk (l : Launch) (G : gG) (h0 tt rd nw th kp sh tu n1 n2 n3 n4 n5 n6 n7 n8 co en sk ct et : Nat) (jg : Nat) (pb : Nat) (lw : Nat) (tx : Nat) (him : Int32) (wr : Int32) (fc : Nat → Option Nat) (fe : Nat → Option Nat) (fet : Nat → Nat) (fnm : Nat → Int32) (fso : Nat → Int32) (fmi : Nat → Int32) (fpa : Nat → Int32) (fki : Nat → Int32) (fmo : Nat → Int32) (fsz : Nat → Int32) (frd : Nat → Int32) (fct : Nat → Int32) (fsk : Nat → Int32) (v0 : Int32) (v1 : Int32) (v2 : Int32) (sz : Nat) (htn : lw < tx ∧ tx ≤ 6) (hc : fc lw = some ct) (he : fe lw = some et) (hwx : mWx fct fet) (hjg : jg ≤ 4) (hpb : pb ≤ 6) : Met l yX5_walk wsX5_walk ({ frames := 5, cells := 0, slots := 0, locals := 135 }) (gPre G [.ref h0, .int v0, .int v1, .int v2] [zo5 h0 tt rd nw th kp sh tu him, zo0 nw tt n1 n2 n3 n4 n5 n6 n7 n8 (nI jg) (nI pb) (nI lw), zi G n1 6 fnm, zi G n2 4 fso, zi G n3 4 fmi, zi G n4 4 fpa, zi G n5 6 fki, zi G n6 6 fmo, zi G n7 6 fsz, zi G n8 6 frd, zo3 tt co en sk wr (nI tx), zr G co 6 fc, zr G en 6 fe, zi G ct 160 fct, zi G et 3 (nF fet), zi G sk 32 fsk] sz) (q_X5_walk G h0 tt rd nw th kp sh tu n1 n2 n3 n4 n5 n6 n7 n8 co en sk ct et jg pb lw tx him wr fc fe fet fnm fso fmi fpa fki fmo fsz frd fct fsk v0 v1 v2 (va_A [zo5 h0 tt rd nw th kp sh tu him, zo0 nw tt n1 n2 n3 n4 n5 n6 n7 n8 (nI jg) (nI pb) (nI lw), zi G n1 6 fnm, zi G n2 4 fso, zi G n3 4 fmi, zi G n4 4 fpa, zi G n5 6 fki, zi G n6 6 fmo, zi G n7 6 fsz, zi G n8 6 frd, zo3 tt co en sk wr (nI tx), zr G co 6 fc, zr G en 6 fe, zi G ct 160 fct, zi G et 3 (nF fet), zi G sk 32 fsk] sz)) 0 0 (va_A [zo5 h0 tt rd nw th kp sh tu him, zo0 nw tt n1 n2 n3 n4 n5 n6 n7 n8 (nI jg) (nI pb) (nI lw), zi G n1 6 fnm, zi G n2 4 fso, zi G n3 4 fmi, zi G n4 4 fpa, zi G n5 6 fki, zi G n6 6 fmo, zi G n7 6 fsz, zi G n8 6 frd, zo3 tt co en sk wr (nI tx), zr G co 6 fc, zr G en 6 fe, zi G ct 160 fct, zi G et 3 (nF fet), zi G sk 32 fsk] sz) := by
  refine Met.ofW (cc := cX5_walk) (maxL := 4) (ret := (some .int)) (by decide +kernel) rfl ?_
  intro p e s m args below meth c s₁ B hml hv
  obtain ⟨rfl, hsz, hP, hK, hD0⟩ := hv
  have hx := B.exec
  have hb := B.bytes
  have hr := B.returns
  have hts := atoms_spec (ws := wsX5_walk) B.pre
  have hown : s.vm.findClass RX5 = some m.cls := findClass_of_methodNamed B.named
  have hlocks := B.notSynchronized
  subst hsz
  have hD := hD0.self (sz := s.heap.size)
  generalize hAe : va_A [zo5 h0 tt rd nw th kp sh tu him, zo0 nw tt n1 n2 n3 n4 n5 n6 n7 n8 (nI jg) (nI pb) (nI lw), zi G n1 6 fnm, zi G n2 4 fso, zi G n3 4 fmi, zi G n4 4 fpa, zi G n5 6 fki, zi G n6 6 fmo, zi G n7 6 fsz, zi G n8 6 frd, zo3 tt co en sk wr (nI tx), zr G co 6 fc, zr G en 6 fe, zi G ct 160 fct, zi G et 3 (nF fet), zi G sk 32 fsk] s.heap.size = A at hD ⊢
  have hA : ∀ q : Nat, s.heap.size ≤ q → A q := fun q h => by rw [← hAe]; exact Or.inr h
  have hS : va_S A s.heap s.heap [] := va_S.rf
  have hz9 : gPD G A [zo5 h0 tt rd nw th kp sh tu him, zo0 nw tt n1 n2 n3 n4 n5 n6 n7 n8 (nI jg) (nI pb) (nI lw), zi G n1 6 fnm, zi G n2 4 fso, zi G n3 4 fmi, zi G n4 4 fpa, zi G n5 6 fki, zi G n6 6 fmo, zi G n7 6 fsz, zi G n8 6 frd, zo3 tt co en sk wr (nI tx), zr G co 6 fc, zr G en 6 fe, zi G ct 160 fct, zi G et 3 (nF fet), zi G sk 32 fsk] s.heap := ⟨hP, hD⟩
  have hP := hz9.1
  have hD := hz9.2
  have hl := lv_entry ([.ref h0, .int v0, .int v1, .int v2]) (n := 4) (Nat.le_of_ble_eq_true rfl)
  rw [lg_entry_eq]
  generalize (lg_sl ([.ref h0, .int v0, .int v1, .int v2]) ++ List.replicate (4 - (lg_sl ([.ref h0, .int v0, .int v1, .int v2])).length) Slot.unset).toArray = ls at hl ⊢
  have hl : lv_has ls 4 [zR 0 h0, zI 1 v0, zI 2 v1, zI 3 v2] := hl
  have kf28 := hts (.fieldLink RX5 28 "PebbleInShoe" "now" "LPebbleInShoe$Court;") (by decide +kernel)
  have hiX5 := (by decide +kernel : ∀ w ∈ wsX50, w ∈ wsX5_walk)
  have kf102 := hts (.fieldLink RX5 102 "PebbleInShoe$Court" "miles" "[I") (by decide +kernel)
  have hiX0 := (by decide +kernel : ∀ w ∈ wsX00, w ∈ wsX5_walk)
  refine g_aget (D := G.1) (ci := 5) (v := .ref nw) (C := RX5) (T := TX5) (N := 8) hx hb dX5_walk_0 rfl (lv_at hl 0 rfl) hts hiX5 hown hK hP 0 rfl rfl 2 (by decide +kernel) kf28 (fun _ h9 => h9) rfl dX5_walk_1 ?_
  refine lv_iload_n hx hb dX5_walk_4 rfl (lv_at hl 1 rfl) ?_
  refine lv_iload_n hx hb dX5_walk_5 rfl (lv_at hl 2 rfl) ?_
  refine z_calli [1] (v := bz (mBoth jg pb v0 v1)) (fun _ _ h => h) (va_runV (As := [.int v0, .int v1]) (rest := []) ⟨hx, hb, hml, hown, hts⟩ (c_X0_hasBoth_g l G nw tt n1 n2 n3 n4 n5 n6 n7 n8 jg pb lw v0 v1 s.heap.size (by first | exact hjg | assumption | omega) (by first | exact hpb | assumption | omega)) (cwV 2 hts gX5_walk_X0_hasBoth rfl rfl rfl (by decide +kernel) ⟨Nat.le_of_ble_eq_true rfl, Nat.le_of_ble_eq_true rfl⟩) ⟨gPre_blind, va_recv (q := (RX0, TX0, 12)) hK hP (ci := 0) (q0 := 1) rfl rfl, fun U hU hW => gPre_ofF [1] hU hW hK hP hD (by decide +kernel) rfl⟩ rfl rfl hl.1 rfl (lv_room (Nat.le_of_ble_eq_true rfl)) dX5_walk_6 ⟨Nat.le_of_ble_eq_true rfl, Nat.le_of_ble_eq_true rfl⟩) hS hD hA rfl (fun u t H locs ht hvm hB hz1 hk1 hFq hAq hS => ?_)
  obtain ⟨hP1, hK1, hD1⟩ := hB
  have hP := zKeep hP hD [1] hAq hk1 ht hP1 rfl
  refine lv_if_ne (tgt := 15) hx hb dX5_walk_9 (by decide +kernel) (fun c_3 => ?_) (fun c_3 => ?_)
  · skip
    have p_4 : (mBoth jg pb v0 v1) = true := bz_ne rfl c_3
    have hv_6 : v0 = nI (nC v0) := mHas_eq (mBoth_1 p_4)
    have hk_7 : nC v0 < jg := mHas_lt (by omega) (mBoth_1 p_4)
    have hv_8 : v1 = nI (nC v1) := mHas_eq (mBoth_2 p_4)
    have hk_9 : nC v1 < pb := mHas_lt (by omega) (mBoth_2 p_4)
    refine lv_iload_n hx hb dX5_walk_15 rfl (lv_at hl 3 rfl) ?_
    refine lv_bipush (v := 60) hx hb dX5_walk_16 (by decide +kernel) ?_
    refine z_calli [] (v := bz (decide (0 ≤ v2 ∧ v2 ≤ 60))) (fun _ _ h => h) (va_runS (As := [.int v2, .int 60]) (rest := []) ⟨hx, hb, hml, hown, hts⟩ (c_X5_within_g l G v2 60 H.size) (va_cwS 2 hts gX5_walk_X5_within rfl rfl rfl (by decide +kernel) ⟨Nat.le_of_ble_eq_true rfl, Nat.le_of_ble_eq_true rfl⟩) ⟨gPre_blind, fun U hU hW => gPre_ofF [] hU hW hK hP hD (by decide +kernel) rfl⟩ rfl rfl hl.1 rfl (lv_room (Nat.le_of_ble_eq_true rfl)) dX5_walk_18 ⟨Nat.le_of_ble_eq_true rfl, Nat.le_of_ble_eq_true rfl⟩) hS hD hA rfl (fun u t H locs ht hvm hB hz1 hk1 hFq hAq hS => ?_)
    obtain ⟨hP1, hK1, hD1⟩ := hB
    have hP := zKeep hP hD [] hAq hk1 ht hP1 rfl
    refine lv_if_ne (tgt := 27) hx hb dX5_walk_21 (by decide +kernel) (fun c_12 => ?_) (fun c_12 => ?_)
    · skip
      have p_13 : 0 ≤ v2 ∧ v2 ≤ 60 := of_decide_eq_true (bz_ne rfl c_12)
      have hv_15 : v2 = nI (nC v2) := nC_eq p_13.1
      have hk_16 : nC v2 ≤ 60 := nC_le (n := 60) (by omega) p_13
      refine g_aget (D := G.1) (ci := 5) (v := .ref nw) (C := RX5) (T := TX5) (N := 8) hx hb dX5_walk_27 rfl (lv_at hl 0 rfl) hts hiX5 hown hK hP 0 rfl rfl 2 (by decide +kernel) kf28 (fun _ h9 => h9) rfl dX5_walk_28 ?_
      refine va_get (D := G.1) (ci := 0) (v := .ref n3) (C := RX0) (T := TX0) (N := 12) hx hb hts hiX0 hown hK hP 1 rfl rfl 3 (by decide +kernel) kf102 (fun _ h9 => h9) rfl dX5_walk_31 ?_
      refine lv_iload_n hx hb dX5_walk_34 rfl (lv_at hl 1 rfl) ?_
      refine g_topi (y := nI (nC v0)) hv_6 ?_
      refine g_iald (D := G.1) hx hb hK hP 4 0 rfl rfl (k := nC v0) (y := fmi (nC v0)) (by omega) rfl rfl dX5_walk_35 ?_
      refine lv_iload_n hx hb dX5_walk_36 rfl (lv_at hl 3 rfl) ?_
      refine g_topi (y := nI (nC v2)) hv_15 ?_
      refine lv_iadd hx hb dX5_walk_37 ?_
      refine lv_sipush (v := 999) hx hb dX5_walk_38 (by decide +kernel) ?_
      refine lv_icmp_le (tgt := 47) hx hb dX5_walk_41 (by decide +kernel) (fun c_20 => ?_) (fun c_20 => ?_)
      · skip
        refine g_aget (D := G.1) (ci := 5) (v := .ref nw) (C := RX5) (T := TX5) (N := 8) hx hb dX5_walk_47 rfl (lv_at hl 0 rfl) hts hiX5 hown hK hP 0 rfl rfl 2 (by decide +kernel) kf28 (fun _ h9 => h9) rfl dX5_walk_48 ?_
        refine lv_iload_n hx hb dX5_walk_51 rfl (lv_at hl 1 rfl) ?_
        refine g_topi (y := nI (nC v0)) hv_6 ?_
        refine lv_iload_n hx hb dX5_walk_52 rfl (lv_at hl 2 rfl) ?_
        refine g_topi (y := nI (nC v1)) hv_8 ?_
        refine lv_iload_n hx hb dX5_walk_53 rfl (lv_at hl 3 rfl) ?_
        refine g_topi (y := nI (nC v2)) hv_15 ?_
        refine z_calli [1, 2, 3, 4, 5, 6, 7, 8, 9, 10, 11, 12, 13, 14, 15] (v := m_X0_go (nC v0) (nC v1) (nC v2) fso fmi fpa fki fmo fsz frd fct fet) (fun _ ⟨_, _⟩ h => h) (va_runV (As := [.int (nI (nC v0)), .int (nI (nC v1)), .int (nI (nC v2))]) (rest := []) ⟨hx, hb, hml, hown, hts⟩ (c_X0_go l G nw tt n1 n2 n3 n4 n5 n6 n7 n8 co en sk ct et lw (nC v0) (nC v1) (nC v2) tx (nI jg) (nI pb) wr fnm fso fmi fpa fki fmo fsz frd fc fe fct fet fsk H.size (by first | exact hj | assumption | omega) (by first | exact hp | assumption | omega) (by first | exact hnn | assumption | omega) (by first | exact htn | assumption | omega) (by first | exact hc | assumption | omega) (by first | exact he | assumption | omega) (by first | exact hwx | assumption | omega)) (cwV 3 hts gX5_walk_X0_go rfl rfl rfl (by decide +kernel) ⟨Nat.le_of_ble_eq_true rfl, Nat.le_of_ble_eq_true rfl⟩) ⟨gPre_blind, va_recv (q := (RX0, TX0, 12)) hK hP (ci := 0) (q0 := 1) rfl rfl, fun U hU hW => gPre_ofF [1, 2, 3, 4, 5, 6, 7, 8, 9, 10, 11, 12, 13, 14, 15] hU hW hK hP hD (by decide +kernel) rfl⟩ rfl rfl hl.1 rfl (lv_room (Nat.le_of_ble_eq_true rfl)) dX5_walk_54 ⟨Nat.le_of_ble_eq_true rfl, Nat.le_of_ble_eq_true rfl⟩) hS hD hA rfl (fun u t H locs ht hvm hB hz1 hk1 hFq hAq hS => ?_)
        obtain ⟨yn1_26, ysk_27⟩ := u
        obtain ⟨hP1, hK1, hD1⟩ := hB
        have hz9 : gPD G A [zo5 h0 tt rd nw th kp sh tu him, zo0 nw tt n1 n2 n3 n4 n5 n6 n7 n8 (nI jg) (nI pb) (nI lw), zi G n1 6 yn1_26, zi G n2 4 (m_X0_go_n2 (nC v0) (nC v1) (nC v2) fso fmi fpa fki fmo fsz frd fct fet), zi G n3 4 (m_X0_go_n3 (nC v0) (nC v1) (nC v2) fso fmi fpa fki fmo fsz frd fct fet), zi G n4 4 (m_X0_go_n4 (nC v0) (nC v1) (nC v2) fso fmi fpa fki fmo fsz frd fct fet), zi G n5 6 fki, zi G n6 6 fmo, zi G n7 6 (m_X0_go_n7 (nC v0) (nC v1) (nC v2) fso fmi fpa fki fmo fsz frd fct fet), zi G n8 6 frd, zo3 tt co en sk wr (nI tx), zr G co 6 fc, zr G en 6 fe, zi G ct 160 fct, zi G et 3 (nF fet), zi G sk 32 ysk_27] H := zFill hP hD [1, 2, 3, 4, 5, 6, 7, 8, 9, 10, 11, 12, 13, 14, 15] [0, 1, 2, 3, 4, 5, 6, 7, 8, 9, 10, 11, 12, 13, 14, 15] hAq hk1 hFq ht hP1 hD1 rfl (by decide +kernel)
        have hP := hz9.1
        have hD := hz9.2
        have q_28 : m_X5_walk_n2 jg pb fet fso fmi fpa fki fmo fsz frd fct v0 v1 v2 = (m_X0_go_n2 (nC v0) (nC v1) (nC v2) fso fmi fpa fki fmo fsz frd fct fet) := by unfold m_X5_walk_n2; rw [if_pos p_4, if_pos p_13, if_pos c_20]
        have q_29 : m_X5_walk_n3 jg pb fet fso fmi fpa fki fmo fsz frd fct v0 v1 v2 = (m_X0_go_n3 (nC v0) (nC v1) (nC v2) fso fmi fpa fki fmo fsz frd fct fet) := by unfold m_X5_walk_n3; rw [if_pos p_4, if_pos p_13, if_pos c_20]
        have q_30 : m_X5_walk_n4 jg pb fet fso fmi fpa fki fmo fsz frd fct v0 v1 v2 = (m_X0_go_n4 (nC v0) (nC v1) (nC v2) fso fmi fpa fki fmo fsz frd fct fet) := by unfold m_X5_walk_n4; rw [if_pos p_4, if_pos p_13, if_pos c_20]
        have q_31 : m_X5_walk_n7 jg pb fet fso fmi fpa fki fmo fsz frd fct v0 v1 v2 = (m_X0_go_n7 (nC v0) (nC v1) (nC v2) fso fmi fpa fki fmo fsz frd fct fet) := by unfold m_X5_walk_n7; rw [if_pos p_4, if_pos p_13, if_pos c_20]
        have hz9 : gPD G A [zo5 h0 tt rd nw th kp sh tu him, zo0 nw tt n1 n2 n3 n4 n5 n6 n7 n8 (nI (jg)) (nI (pb)) (nI lw), zi G n1 6 yn1_26, zi G n2 4 (m_X5_walk_n2 jg pb fet fso fmi fpa fki fmo fsz frd fct v0 v1 v2), zi G n3 4 (m_X5_walk_n3 jg pb fet fso fmi fpa fki fmo fsz frd fct v0 v1 v2), zi G n4 4 (m_X5_walk_n4 jg pb fet fso fmi fpa fki fmo fsz frd fct v0 v1 v2), zi G n5 6 fki, zi G n6 6 fmo, zi G n7 6 (m_X5_walk_n7 jg pb fet fso fmi fpa fki fmo fsz frd fct v0 v1 v2), zi G n8 6 frd, zo3 tt co en sk wr (nI tx), zr G co 6 fc, zr G en 6 fe, zi G ct 160 fct, zi G et 3 (nF fet), zi G sk 32 ysk_27] H := ⟨by rw [q_28, q_29, q_30, q_31]; exact hP, by rw [q_28, q_29, q_30, q_31]; exact hD⟩
        have hP9 := hz9.1
        have hD9 := hz9.2
        have hpost : (fun (r : Int32) (u : (Nat → Int32) × (Nat → Int32)) => match u with | (yn1, ysk) => r = m_X5_walk jg pb fet fso fmi fpa fki fmo fsz frd fct v0 v1 v2) (m_X0_go (nC v0) (nC v1) (nC v2) fso fmi fpa fki fmo fsz frd fct fet) (yn1_26, ysk_27) := (show m_X5_walk jg pb fet fso fmi fpa fki fmo fsz frd fct v0 v1 v2 = (m_X0_go (nC v0) (nC v1) (nC v2) fso fmi fpa fki fmo fsz frd fct fet) from by unfold m_X5_walk; rw [if_pos p_4, if_pos p_13, if_pos c_20]).symm
        exact W.iret (v := (m_X0_go (nC v0) (nC v1) (nC v2) fso fmi fpa fki fmo fsz frd fct fet)) hx hb hr (fun t ht hW => ⟨⟨(m_X0_go (nC v0) (nC v1) (nC v2) fso fmi fpa fki fmo fsz frd fct fet), (yn1_26, ysk_27), rfl, hpost, by rw [ht]; exact hP9, va_K.moved hW.alike hK, hD9⟩, hS.F ht⟩) hS.2.2 dX5_walk_57
      · skip
        refine lv_bipush (v := -4) hx hb dX5_walk_44 (by decide +kernel) ?_
        have q_32 : m_X5_walk_n2 jg pb fet fso fmi fpa fki fmo fsz frd fct v0 v1 v2 = fso := by unfold m_X5_walk_n2; rw [if_pos p_4, if_pos p_13, if_neg c_20]
        have q_33 : m_X5_walk_n3 jg pb fet fso fmi fpa fki fmo fsz frd fct v0 v1 v2 = fmi := by unfold m_X5_walk_n3; rw [if_pos p_4, if_pos p_13, if_neg c_20]
        have q_34 : m_X5_walk_n4 jg pb fet fso fmi fpa fki fmo fsz frd fct v0 v1 v2 = fpa := by unfold m_X5_walk_n4; rw [if_pos p_4, if_pos p_13, if_neg c_20]
        have q_35 : m_X5_walk_n7 jg pb fet fso fmi fpa fki fmo fsz frd fct v0 v1 v2 = fsz := by unfold m_X5_walk_n7; rw [if_pos p_4, if_pos p_13, if_neg c_20]
        have hz9 : gPD G A [zo5 h0 tt rd nw th kp sh tu him, zo0 nw tt n1 n2 n3 n4 n5 n6 n7 n8 (nI (jg)) (nI (pb)) (nI lw), zi G n1 6 fnm, zi G n2 4 (m_X5_walk_n2 jg pb fet fso fmi fpa fki fmo fsz frd fct v0 v1 v2), zi G n3 4 (m_X5_walk_n3 jg pb fet fso fmi fpa fki fmo fsz frd fct v0 v1 v2), zi G n4 4 (m_X5_walk_n4 jg pb fet fso fmi fpa fki fmo fsz frd fct v0 v1 v2), zi G n5 6 fki, zi G n6 6 fmo, zi G n7 6 (m_X5_walk_n7 jg pb fet fso fmi fpa fki fmo fsz frd fct v0 v1 v2), zi G n8 6 frd, zo3 tt co en sk wr (nI tx), zr G co 6 fc, zr G en 6 fe, zi G ct 160 fct, zi G et 3 (nF fet), zi G sk 32 fsk] H := ⟨by rw [q_32, q_33, q_34, q_35]; exact hP, by rw [q_32, q_33, q_34, q_35]; exact hD⟩
        have hP9 := hz9.1
        have hD9 := hz9.2
        have hpost : (fun (r : Int32) (u : (Nat → Int32) × (Nat → Int32)) => match u with | (yn1, ysk) => r = m_X5_walk jg pb fet fso fmi fpa fki fmo fsz frd fct v0 v1 v2) (-4) (fnm, fsk) := (show m_X5_walk jg pb fet fso fmi fpa fki fmo fsz frd fct v0 v1 v2 = (-4) from by unfold m_X5_walk; rw [if_pos p_4, if_pos p_13, if_neg c_20]).symm
        exact W.iret (v := (-4)) hx hb hr (fun t ht hW => ⟨⟨(-4), (fnm, fsk), rfl, hpost, by rw [ht]; exact hP9, va_K.moved hW.alike hK, hD9⟩, hS.F ht⟩) hS.2.2 dX5_walk_46
    · skip
      have n_14 : ¬ (0 ≤ v2 ∧ v2 ≤ 60) := of_decide_eq_false (bz_eq rfl c_12)
      refine lv_bipush (v := -7) hx hb dX5_walk_24 (by decide +kernel) ?_
      have q_36 : m_X5_walk_n2 jg pb fet fso fmi fpa fki fmo fsz frd fct v0 v1 v2 = fso := by unfold m_X5_walk_n2; rw [if_pos p_4, if_neg n_14]
      have q_37 : m_X5_walk_n3 jg pb fet fso fmi fpa fki fmo fsz frd fct v0 v1 v2 = fmi := by unfold m_X5_walk_n3; rw [if_pos p_4, if_neg n_14]
      have q_38 : m_X5_walk_n4 jg pb fet fso fmi fpa fki fmo fsz frd fct v0 v1 v2 = fpa := by unfold m_X5_walk_n4; rw [if_pos p_4, if_neg n_14]
      have q_39 : m_X5_walk_n7 jg pb fet fso fmi fpa fki fmo fsz frd fct v0 v1 v2 = fsz := by unfold m_X5_walk_n7; rw [if_pos p_4, if_neg n_14]
      have hz9 : gPD G A [zo5 h0 tt rd nw th kp sh tu him, zo0 nw tt n1 n2 n3 n4 n5 n6 n7 n8 (nI (jg)) (nI (pb)) (nI lw), zi G n1 6 fnm, zi G n2 4 (m_X5_walk_n2 jg pb fet fso fmi fpa fki fmo fsz frd fct v0 v1 v2), zi G n3 4 (m_X5_walk_n3 jg pb fet fso fmi fpa fki fmo fsz frd fct v0 v1 v2), zi G n4 4 (m_X5_walk_n4 jg pb fet fso fmi fpa fki fmo fsz frd fct v0 v1 v2), zi G n5 6 fki, zi G n6 6 fmo, zi G n7 6 (m_X5_walk_n7 jg pb fet fso fmi fpa fki fmo fsz frd fct v0 v1 v2), zi G n8 6 frd, zo3 tt co en sk wr (nI tx), zr G co 6 fc, zr G en 6 fe, zi G ct 160 fct, zi G et 3 (nF fet), zi G sk 32 fsk] H := ⟨by rw [q_36, q_37, q_38, q_39]; exact hP, by rw [q_36, q_37, q_38, q_39]; exact hD⟩
      have hP9 := hz9.1
      have hD9 := hz9.2
      have hpost : (fun (r : Int32) (u : (Nat → Int32) × (Nat → Int32)) => match u with | (yn1, ysk) => r = m_X5_walk jg pb fet fso fmi fpa fki fmo fsz frd fct v0 v1 v2) (-7) (fnm, fsk) := (show m_X5_walk jg pb fet fso fmi fpa fki fmo fsz frd fct v0 v1 v2 = (-7) from by unfold m_X5_walk; rw [if_pos p_4, if_neg n_14]).symm
      exact W.iret (v := (-7)) hx hb hr (fun t ht hW => ⟨⟨(-7), (fnm, fsk), rfl, hpost, by rw [ht]; exact hP9, va_K.moved hW.alike hK, hD9⟩, hS.F ht⟩) hS.2.2 dX5_walk_26
  · skip
    have n_5 : (mBoth jg pb v0 v1) = false := bz_eq rfl c_3
    have n_5N : ¬ ((mBoth jg pb v0 v1) = true) := by rw [n_5]; decide
    refine lv_bipush (v := -5) hx hb dX5_walk_12 (by decide +kernel) ?_
    have q_40 : m_X5_walk_n2 jg pb fet fso fmi fpa fki fmo fsz frd fct v0 v1 v2 = fso := by unfold m_X5_walk_n2; rw [if_neg n_5N]
    have q_41 : m_X5_walk_n3 jg pb fet fso fmi fpa fki fmo fsz frd fct v0 v1 v2 = fmi := by unfold m_X5_walk_n3; rw [if_neg n_5N]
    have q_42 : m_X5_walk_n4 jg pb fet fso fmi fpa fki fmo fsz frd fct v0 v1 v2 = fpa := by unfold m_X5_walk_n4; rw [if_neg n_5N]
    have q_43 : m_X5_walk_n7 jg pb fet fso fmi fpa fki fmo fsz frd fct v0 v1 v2 = fsz := by unfold m_X5_walk_n7; rw [if_neg n_5N]
    have hz9 : gPD G A [zo5 h0 tt rd nw th kp sh tu him, zo0 nw tt n1 n2 n3 n4 n5 n6 n7 n8 (nI (jg)) (nI (pb)) (nI lw), zi G n1 6 fnm, zi G n2 4 (m_X5_walk_n2 jg pb fet fso fmi fpa fki fmo fsz frd fct v0 v1 v2), zi G n3 4 (m_X5_walk_n3 jg pb fet fso fmi fpa fki fmo fsz frd fct v0 v1 v2), zi G n4 4 (m_X5_walk_n4 jg pb fet fso fmi fpa fki fmo fsz frd fct v0 v1 v2), zi G n5 6 fki, zi G n6 6 fmo, zi G n7 6 (m_X5_walk_n7 jg pb fet fso fmi fpa fki fmo fsz frd fct v0 v1 v2), zi G n8 6 frd, zo3 tt co en sk wr (nI tx), zr G co 6 fc, zr G en 6 fe, zi G ct 160 fct, zi G et 3 (nF fet), zi G sk 32 fsk] H := ⟨by rw [q_40, q_41, q_42, q_43]; exact hP, by rw [q_40, q_41, q_42, q_43]; exact hD⟩
    have hP9 := hz9.1
    have hD9 := hz9.2
    have hpost : (fun (r : Int32) (u : (Nat → Int32) × (Nat → Int32)) => match u with | (yn1, ysk) => r = m_X5_walk jg pb fet fso fmi fpa fki fmo fsz frd fct v0 v1 v2) (-5) (fnm, fsk) := (show m_X5_walk jg pb fet fso fmi fpa fki fmo fsz frd fct v0 v1 v2 = (-5) from by unfold m_X5_walk; rw [if_neg n_5N]).symm
    exact W.iret (v := (-5)) hx hb hr (fun t ht hW => ⟨⟨(-5), (fnm, fsk), rfl, hpost, by rw [ht]; exact hP9, va_K.moved hW.alike hK, hD9⟩, hS.F ht⟩) hS.2.2 dX5_walk_14
noncomputable def m_X5_hear (jg : Nat) (pb : Nat) (fet : Nat → Nat) (fso : Nat → Int32) (fmi : Nat → Int32) (fpa : Nat → Int32) (fki : Nat → Int32) (fmo : Nat → Int32) (fsz : Nat → Int32) (frd : Nat → Int32) (fct : Nat → Int32) (v0 : Int32) (v1 : Int32) (v2 : Int32) (v3 : Int32) : Int32 := if (mBoth jg pb v0 v1) = true then (if 0 ≤ v2 ∧ v2 ≤ 60 then (if 0 ≤ v3 ∧ v3 ≤ 3 then (if (nI (nC v3)) = 3 then (m_X0_go_n2 (nC v0) (nC v1) (nC v2) fso fmi fpa fki fmo fsz frd fct fet) (nC v0) else m_X5_outcome fet (m_X0_go_n2 (nC v0) (nC v1) (nC v2) fso fmi fpa fki fmo fsz frd fct fet) (m_X0_go_n3 (nC v0) (nC v1) (nC v2) fso fmi fpa fki fmo fsz frd fct fet) fmo (m_X0_go_n7 (nC v0) (nC v1) (nC v2) fso fmi fpa fki fmo fsz frd fct fet) frd fct (nC v0) (nC v1) (m_X0_go (nC v0) (nC v1) (nC v2) fso fmi fpa fki fmo fsz frd fct fet) (nI (nC v3))) else -7) else -7) else -5
noncomputable def m_X5_hear_th9 (jg : Nat) (pb : Nat) (tj : Int32) (v0 : Int32) (v1 : Int32) (v2 : Int32) (v3 : Int32) : Int32 := if (mBoth jg pb v0 v1) = true then (if 0 ≤ v2 ∧ v2 ≤ 60 then (if 0 ≤ v3 ∧ v3 ≤ 3 then (nI jg) else tj) else tj) else tj
noncomputable def m_X5_hear_th10 (jg : Nat) (pb : Nat) (tb : Int32) (v0 : Int32) (v1 : Int32) (v2 : Int32) (v3 : Int32) : Int32 := if (mBoth jg pb v0 v1) = true then (if 0 ≤ v2 ∧ v2 ≤ 60 then (if 0 ≤ v3 ∧ v3 ≤ 3 then (nI pb) else tb) else tb) else tb
noncomputable def m_X5_hear_th11 (jg : Nat) (pb : Nat) (lw : Nat) (tl : Int32) (v0 : Int32) (v1 : Int32) (v2 : Int32) (v3 : Int32) : Int32 := if (mBoth jg pb v0 v1) = true then (if 0 ≤ v2 ∧ v2 ≤ 60 then (if 0 ≤ v3 ∧ v3 ≤ 3 then nI lw else tl) else tl) else tl
abbrev q_X5_hear (G : gG) (h0 tt rd nw th kp sh tu n1 n2 n3 n4 n5 n6 n7 n8 t1 t2 t3 t4 t5 t6 t7 t8 co en sk ct et : Nat) (jg : Nat) (pb : Nat) (lw : Nat) (tx : Nat) (him : Int32) (wr : Int32) (tj : Int32) (tb : Int32) (tl : Int32) (fc : Nat → Option Nat) (fe : Nat → Option Nat) (fet : Nat → Nat) (fso : Nat → Int32) (fmi : Nat → Int32) (fpa : Nat → Int32) (fki : Nat → Int32) (fmo : Nat → Int32) (fsz : Nat → Int32) (frd : Nat → Int32) (unm : Nat → Int32) (uso : Nat → Int32) (umi : Nat → Int32) (upa : Nat → Int32) (uki : Nat → Int32) (umo : Nat → Int32) (usz : Nat → Int32) (urd : Nat → Int32) (fct : Nat → Int32) (fsk : Nat → Int32) (v0 : Int32) (v1 : Int32) (v2 : Int32) (v3 : Int32) (A : Nat → Prop) : Array Value → State → Outcome → State → Prop := va_Qi (fun (r : Int32) (u : (Nat → Int32) × (Nat → Int32) × (Nat → Int32) × (Nat → Int32) × (Nat → Int32) × (Nat → Int32) × (Nat → Int32) × (Nat → Int32) × (Nat → Int32)) => match u with | (yt1, yt2, yt3, yt4, yt5, yt6, yt7, yt8, ysk) => r = m_X5_hear jg pb fet fso fmi fpa fki fmo fsz frd fct v0 v1 v2 v3) (fun (u : (Nat → Int32) × (Nat → Int32) × (Nat → Int32) × (Nat → Int32) × (Nat → Int32) × (Nat → Int32) × (Nat → Int32) × (Nat → Int32) × (Nat → Int32)) t => match u with | (yt1, yt2, yt3, yt4, yt5, yt6, yt7, yt8, ysk) => va_P G.1 vwCl [zo5 h0 tt rd nw th kp sh tu him, zo0 nw tt n1 n2 n3 n4 n5 n6 n7 n8 (nI jg) (nI pb) (nI lw), zi G n2 4 fso, zi G n3 4 fmi, zi G n4 4 fpa, zi G n5 6 fki, zi G n6 6 fmo, zi G n7 6 fsz, zi G n8 6 frd, zo0 th tt t1 t2 t3 t4 t5 t6 t7 t8 (m_X5_hear_th9 jg pb tj v0 v1 v2 v3) (m_X5_hear_th10 jg pb tb v0 v1 v2 v3) (m_X5_hear_th11 jg pb lw tl v0 v1 v2 v3), zi G t1 6 yt1, zi G t2 4 yt2, zi G t3 4 yt3, zi G t4 4 yt4, zi G t5 6 yt5, zi G t6 6 yt6, zi G t7 6 yt7, zi G t8 6 yt8, zo3 tt co en sk wr (nI tx), zr G co 6 fc, zr G en 6 fe, zi G ct 160 fct, zi G et 3 (nF fet), zi G sk 32 ysk] t.heap ∧ gK G t ∧ va_D A [zo5 h0 tt rd nw th kp sh tu him, zo0 nw tt n1 n2 n3 n4 n5 n6 n7 n8 (nI jg) (nI pb) (nI lw), zi G n2 4 fso, zi G n3 4 fmi, zi G n4 4 fpa, zi G n5 6 fki, zi G n6 6 fmo, zi G n7 6 fsz, zi G n8 6 frd, zo0 th tt t1 t2 t3 t4 t5 t6 t7 t8 (m_X5_hear_th9 jg pb tj v0 v1 v2 v3) (m_X5_hear_th10 jg pb tb v0 v1 v2 v3) (m_X5_hear_th11 jg pb lw tl v0 v1 v2 v3), zi G t1 6 yt1, zi G t2 4 yt2, zi G t3 4 yt3, zi G t4 4 yt4, zi G t5 6 yt5, zi G t6 6 yt6, zi G t7 6 yt7, zi G t8 6 yt8, zo3 tt co en sk wr (nI tx), zr G co 6 fc, zr G en 6 fe, zi G ct 160 fct, zi G et 3 (nF fet), zi G sk 32 ysk]) A
set_option maxHeartbeats 4000000 in
set_option maxRecDepth 100000 in
theorem c_X5_hear (l : Launch) (G : gG) (h0 tt rd nw th kp sh tu n1 n2 n3 n4 n5 n6 n7 n8 t1 t2 t3 t4 t5 t6 t7 t8 co en sk ct et : Nat) (jg : Nat) (pb : Nat) (lw : Nat) (tx : Nat) (him : Int32) (wr : Int32) (tj : Int32) (tb : Int32) (tl : Int32) (fc : Nat → Option Nat) (fe : Nat → Option Nat) (fet : Nat → Nat) (fso : Nat → Int32) (fmi : Nat → Int32) (fpa : Nat → Int32) (fki : Nat → Int32) (fmo : Nat → Int32) (fsz : Nat → Int32) (frd : Nat → Int32) (unm : Nat → Int32) (uso : Nat → Int32) (umi : Nat → Int32) (upa : Nat → Int32) (uki : Nat → Int32) (umo : Nat → Int32) (usz : Nat → Int32) (urd : Nat → Int32) (fct : Nat → Int32) (fsk : Nat → Int32) (v0 : Int32) (v1 : Int32) (v2 : Int32) (v3 : Int32) (sz : Nat) (htn : lw < tx ∧ tx ≤ 6) (hc : fc lw = some ct) (he : fe lw = some et) (hwx : mWx fct fet) (hjg : jg ≤ 4) (hpb : pb ≤ 6) : Met l yX5_hear wsX5_hear ({ frames := 5, cells := 0, slots := 0, locals := 441 }) (gPre G [.ref h0, .int v0, .int v1, .int v2, .int v3] [zo5 h0 tt rd nw th kp sh tu him, zo0 nw tt n1 n2 n3 n4 n5 n6 n7 n8 (nI jg) (nI pb) (nI lw), zi G n2 4 fso, zi G n3 4 fmi, zi G n4 4 fpa, zi G n5 6 fki, zi G n6 6 fmo, zi G n7 6 fsz, zi G n8 6 frd, zo0 th tt t1 t2 t3 t4 t5 t6 t7 t8 tj tb tl, zi G t1 6 unm, zi G t2 4 uso, zi G t3 4 umi, zi G t4 4 upa, zi G t5 6 uki, zi G t6 6 umo, zi G t7 6 usz, zi G t8 6 urd, zo3 tt co en sk wr (nI tx), zr G co 6 fc, zr G en 6 fe, zi G ct 160 fct, zi G et 3 (nF fet), zi G sk 32 fsk] sz) (q_X5_hear G h0 tt rd nw th kp sh tu n1 n2 n3 n4 n5 n6 n7 n8 t1 t2 t3 t4 t5 t6 t7 t8 co en sk ct et jg pb lw tx him wr tj tb tl fc fe fet fso fmi fpa fki fmo fsz frd unm uso umi upa uki umo usz urd fct fsk v0 v1 v2 v3 (va_A [zo5 h0 tt rd nw th kp sh tu him, zo0 nw tt n1 n2 n3 n4 n5 n6 n7 n8 (nI jg) (nI pb) (nI lw), zi G n2 4 fso, zi G n3 4 fmi, zi G n4 4 fpa, zi G n5 6 fki, zi G n6 6 fmo, zi G n7 6 fsz, zi G n8 6 frd, zo0 th tt t1 t2 t3 t4 t5 t6 t7 t8 tj tb tl, zi G t1 6 unm, zi G t2 4 uso, zi G t3 4 umi, zi G t4 4 upa, zi G t5 6 uki, zi G t6 6 umo, zi G t7 6 usz, zi G t8 6 urd, zo3 tt co en sk wr (nI tx), zr G co 6 fc, zr G en 6 fe, zi G ct 160 fct, zi G et 3 (nF fet), zi G sk 32 fsk] sz)) 0 0 (va_A [zo5 h0 tt rd nw th kp sh tu him, zo0 nw tt n1 n2 n3 n4 n5 n6 n7 n8 (nI jg) (nI pb) (nI lw), zi G n2 4 fso, zi G n3 4 fmi, zi G n4 4 fpa, zi G n5 6 fki, zi G n6 6 fmo, zi G n7 6 fsz, zi G n8 6 frd, zo0 th tt t1 t2 t3 t4 t5 t6 t7 t8 tj tb tl, zi G t1 6 unm, zi G t2 4 uso, zi G t3 4 umi, zi G t4 4 upa, zi G t5 6 uki, zi G t6 6 umo, zi G t7 6 usz, zi G t8 6 urd, zo3 tt co en sk wr (nI tx), zr G co 6 fc, zr G en 6 fe, zi G ct 160 fct, zi G et 3 (nF fet), zi G sk 32 fsk] sz) := by
  refine Met.ofW (cc := cX5_hear) (maxL := 6) (ret := (some .int)) (by decide +kernel) rfl ?_
  intro p e s m args below meth c s₁ B hml hv
  obtain ⟨rfl, hsz, hP, hK, hD0⟩ := hv
  have hx := B.exec
  have hb := B.bytes
  have hr := B.returns
  have hts := atoms_spec (ws := wsX5_hear) B.pre
  have hown : s.vm.findClass RX5 = some m.cls := findClass_of_methodNamed B.named
  have hlocks := B.notSynchronized
  subst hsz
  have hD := hD0.self (sz := s.heap.size)
  generalize hAe : va_A [zo5 h0 tt rd nw th kp sh tu him, zo0 nw tt n1 n2 n3 n4 n5 n6 n7 n8 (nI jg) (nI pb) (nI lw), zi G n2 4 fso, zi G n3 4 fmi, zi G n4 4 fpa, zi G n5 6 fki, zi G n6 6 fmo, zi G n7 6 fsz, zi G n8 6 frd, zo0 th tt t1 t2 t3 t4 t5 t6 t7 t8 tj tb tl, zi G t1 6 unm, zi G t2 4 uso, zi G t3 4 umi, zi G t4 4 upa, zi G t5 6 uki, zi G t6 6 umo, zi G t7 6 usz, zi G t8 6 urd, zo3 tt co en sk wr (nI tx), zr G co 6 fc, zr G en 6 fe, zi G ct 160 fct, zi G et 3 (nF fet), zi G sk 32 fsk] s.heap.size = A at hD ⊢
  have hA : ∀ q : Nat, s.heap.size ≤ q → A q := fun q h => by rw [← hAe]; exact Or.inr h
  have hS : va_S A s.heap s.heap [] := va_S.rf
  have hz9 : gPD G A [zo5 h0 tt rd nw th kp sh tu him, zo0 nw tt n1 n2 n3 n4 n5 n6 n7 n8 (nI jg) (nI pb) (nI lw), zi G n2 4 fso, zi G n3 4 fmi, zi G n4 4 fpa, zi G n5 6 fki, zi G n6 6 fmo, zi G n7 6 fsz, zi G n8 6 frd, zo0 th tt t1 t2 t3 t4 t5 t6 t7 t8 tj tb tl, zi G t1 6 unm, zi G t2 4 uso, zi G t3 4 umi, zi G t4 4 upa, zi G t5 6 uki, zi G t6 6 umo, zi G t7 6 usz, zi G t8 6 urd, zo3 tt co en sk wr (nI tx), zr G co 6 fc, zr G en 6 fe, zi G ct 160 fct, zi G et 3 (nF fet), zi G sk 32 fsk] s.heap := ⟨hP, hD⟩
  have hP := hz9.1
  have hD := hz9.2
  have hl := lv_entry ([.ref h0, .int v0, .int v1, .int v2, .int v3]) (n := 6) (Nat.le_of_ble_eq_true rfl)
  rw [lg_entry_eq]
  generalize (lg_sl ([.ref h0, .int v0, .int v1, .int v2, .int v3]) ++ List.replicate (6 - (lg_sl ([.ref h0, .int v0, .int v1, .int v2, .int v3])).length) Slot.unset).toArray = ls at hl ⊢
  have hl : lv_has ls 6 [zR 0 h0, zI 1 v0, zI 2 v1, zI 3 v2, zI 4 v3] := hl
  have kf28 := hts (.fieldLink RX5 28 "PebbleInShoe" "now" "LPebbleInShoe$Court;") (by decide +kernel)
  have hiX5 := (by decide +kernel : ∀ w ∈ wsX50, w ∈ wsX5_hear)
  have kf32 := hts (.fieldLink RX5 32 "PebbleInShoe" "thought" "LPebbleInShoe$Court;") (by decide +kernel)
  have kf98 := hts (.fieldLink RX5 98 "PebbleInShoe$Court" "soles" "[I") (by decide +kernel)
  have hiX0 := (by decide +kernel : ∀ w ∈ wsX00, w ∈ wsX5_hear)
  refine g_aget (D := G.1) (ci := 5) (v := .ref nw) (C := RX5) (T := TX5) (N := 8) hx hb dX5_hear_0 rfl (lv_at hl 0 rfl) hts hiX5 hown hK hP 0 rfl rfl 2 (by decide +kernel) kf28 (fun _ h9 => h9) rfl dX5_hear_1 ?_
  refine lv_iload_n hx hb dX5_hear_4 rfl (lv_at hl 1 rfl) ?_
  refine lv_iload_n hx hb dX5_hear_5 rfl (lv_at hl 2 rfl) ?_
  refine z_calli [1] (v := bz (mBoth jg pb v0 v1)) (fun _ _ h => h) (va_runV (As := [.int v0, .int v1]) (rest := []) ⟨hx, hb, hml, hown, hts⟩ (c_X0_hasBoth_g l G nw tt n1 n2 n3 n4 n5 n6 n7 n8 jg pb lw v0 v1 s.heap.size (by first | exact hjg | assumption | omega) (by first | exact hpb | assumption | omega)) (cwV 2 hts gX5_hear_X0_hasBoth rfl rfl rfl (by decide +kernel) ⟨Nat.le_of_ble_eq_true rfl, Nat.le_of_ble_eq_true rfl⟩) ⟨gPre_blind, va_recv (q := (RX0, TX0, 12)) hK hP (ci := 0) (q0 := 1) rfl rfl, fun U hU hW => gPre_ofF [1] hU hW hK hP hD (by decide +kernel) rfl⟩ rfl rfl hl.1 rfl (lv_room (Nat.le_of_ble_eq_true rfl)) dX5_hear_6 ⟨Nat.le_of_ble_eq_true rfl, Nat.le_of_ble_eq_true rfl⟩) hS hD hA rfl (fun u t H locs ht hvm hB hz1 hk1 hFq hAq hS => ?_)
  obtain ⟨hP1, hK1, hD1⟩ := hB
  have hP := zKeep hP hD [1] hAq hk1 ht hP1 rfl
  refine lv_if_ne (tgt := 15) hx hb dX5_hear_9 (by decide +kernel) (fun c_3 => ?_) (fun c_3 => ?_)
  · skip
    have p_4 : (mBoth jg pb v0 v1) = true := bz_ne rfl c_3
    have hv_6 : v0 = nI (nC v0) := mHas_eq (mBoth_1 p_4)
    have hk_7 : nC v0 < jg := mHas_lt (by omega) (mBoth_1 p_4)
    have hv_8 : v1 = nI (nC v1) := mHas_eq (mBoth_2 p_4)
    have hk_9 : nC v1 < pb := mHas_lt (by omega) (mBoth_2 p_4)
    refine lv_iload_n hx hb dX5_hear_15 rfl (lv_at hl 3 rfl) ?_
    refine lv_bipush (v := 60) hx hb dX5_hear_16 (by decide +kernel) ?_
    refine z_calli [] (v := bz (decide (0 ≤ v2 ∧ v2 ≤ 60))) (fun _ _ h => h) (va_runS (As := [.int v2, .int 60]) (rest := []) ⟨hx, hb, hml, hown, hts⟩ (c_X5_within_g l G v2 60 H.size) (va_cwS 2 hts gX5_hear_X5_within rfl rfl rfl (by decide +kernel) ⟨Nat.le_of_ble_eq_true rfl, Nat.le_of_ble_eq_true rfl⟩) ⟨gPre_blind, fun U hU hW => gPre_ofF [] hU hW hK hP hD (by decide +kernel) rfl⟩ rfl rfl hl.1 rfl (lv_room (Nat.le_of_ble_eq_true rfl)) dX5_hear_18 ⟨Nat.le_of_ble_eq_true rfl, Nat.le_of_ble_eq_true rfl⟩) hS hD hA rfl (fun u t H locs ht hvm hB hz1 hk1 hFq hAq hS => ?_)
    obtain ⟨hP1, hK1, hD1⟩ := hB
    have hP := zKeep hP hD [] hAq hk1 ht hP1 rfl
    refine lv_if_eq (tgt := 33) hx hb dX5_hear_21 (by decide +kernel) (fun c_12 => ?_) (fun c_12 => ?_)
    · skip
      have n_14 : ¬ (0 ≤ v2 ∧ v2 ≤ 60) := of_decide_eq_false (bz_eq rfl c_12)
      refine lv_bipush (v := -7) hx hb dX5_hear_33 (by decide +kernel) ?_
      have q_17 : m_X5_hear_th9 jg pb tj v0 v1 v2 v3 = tj := by unfold m_X5_hear_th9; rw [if_pos p_4, if_neg n_14]
      have q_18 : m_X5_hear_th10 jg pb tb v0 v1 v2 v3 = tb := by unfold m_X5_hear_th10; rw [if_pos p_4, if_neg n_14]
      have q_19 : m_X5_hear_th11 jg pb lw tl v0 v1 v2 v3 = tl := by unfold m_X5_hear_th11; rw [if_pos p_4, if_neg n_14]
      have hz9 : gPD G A [zo5 h0 tt rd nw th kp sh tu him, zo0 nw tt n1 n2 n3 n4 n5 n6 n7 n8 (nI jg) (nI pb) (nI lw), zi G n2 4 fso, zi G n3 4 fmi, zi G n4 4 fpa, zi G n5 6 fki, zi G n6 6 fmo, zi G n7 6 fsz, zi G n8 6 frd, zo0 th tt t1 t2 t3 t4 t5 t6 t7 t8 (m_X5_hear_th9 jg pb tj v0 v1 v2 v3) (m_X5_hear_th10 jg pb tb v0 v1 v2 v3) (m_X5_hear_th11 jg pb lw tl v0 v1 v2 v3), zi G t1 6 unm, zi G t2 4 uso, zi G t3 4 umi, zi G t4 4 upa, zi G t5 6 uki, zi G t6 6 umo, zi G t7 6 usz, zi G t8 6 urd, zo3 tt co en sk wr (nI tx), zr G co 6 fc, zr G en 6 fe, zi G ct 160 fct, zi G et 3 (nF fet), zi G sk 32 fsk] H := ⟨by rw [q_17, q_18, q_19]; exact hP, by rw [q_17, q_18, q_19]; exact hD⟩
      have hP9 := hz9.1
      have hD9 := hz9.2
      have hpost : (fun (r : Int32) (u : (Nat → Int32) × (Nat → Int32) × (Nat → Int32) × (Nat → Int32) × (Nat → Int32) × (Nat → Int32) × (Nat → Int32) × (Nat → Int32) × (Nat → Int32)) => match u with | (yt1, yt2, yt3, yt4, yt5, yt6, yt7, yt8, ysk) => r = m_X5_hear jg pb fet fso fmi fpa fki fmo fsz frd fct v0 v1 v2 v3) (-7) (unm, uso, umi, upa, uki, umo, usz, urd, fsk) := (show m_X5_hear jg pb fet fso fmi fpa fki fmo fsz frd fct v0 v1 v2 v3 = (-7) from by unfold m_X5_hear; rw [if_pos p_4, if_neg n_14]).symm
      exact W.iret (v := (-7)) hx hb hr (fun t ht hW => ⟨⟨(-7), (unm, uso, umi, upa, uki, umo, usz, urd, fsk), rfl, hpost, by rw [ht]; exact hP9, va_K.moved hW.alike hK, hD9⟩, hS.F ht⟩) hS.2.2 dX5_hear_35
    · skip
      have p_13 : 0 ≤ v2 ∧ v2 ≤ 60 := of_decide_eq_true (bz_ne rfl c_12)
      have hv_15 : v2 = nI (nC v2) := nC_eq p_13.1
      have hk_16 : nC v2 ≤ 60 := nC_le (n := 60) (by omega) p_13
      refine lv_iload hx hb dX5_hear_24 (lv_at hl 4 rfl) ?_
      refine lv_iconst (v := 3) hx hb dX5_hear_26 (by decide +kernel) ?_
      refine z_calli [] (v := bz (decide (0 ≤ v3 ∧ v3 ≤ 3))) (fun _ _ h => h) (va_runS (As := [.int v3, .int 3]) (rest := []) ⟨hx, hb, hml, hown, hts⟩ (c_X5_within_g l G v3 3 H.size) (va_cwS 2 hts gX5_hear_X5_within rfl rfl rfl (by decide +kernel) ⟨Nat.le_of_ble_eq_true rfl, Nat.le_of_ble_eq_true rfl⟩) ⟨gPre_blind, fun U hU hW => gPre_ofF [] hU hW hK hP hD (by decide +kernel) rfl⟩ rfl rfl hl.1 rfl (lv_room (Nat.le_of_ble_eq_true rfl)) dX5_hear_27 ⟨Nat.le_of_ble_eq_true rfl, Nat.le_of_ble_eq_true rfl⟩) hS hD hA rfl (fun u t H locs ht hvm hB hz1 hk1 hFq hAq hS => ?_)
      obtain ⟨hP1, hK1, hD1⟩ := hB
      have hP := zKeep hP hD [] hAq hk1 ht hP1 rfl
      refine lv_if_ne (tgt := 36) hx hb dX5_hear_30 (by decide +kernel) (fun c_22 => ?_) (fun c_22 => ?_)
      · skip
        have p_23 : 0 ≤ v3 ∧ v3 ≤ 3 := of_decide_eq_true (bz_ne rfl c_22)
        have hv_25 : v3 = nI (nC v3) := nC_eq p_23.1
        have hk_26 : nC v3 ≤ 3 := nC_le (n := 3) (by omega) p_23
        refine lv_aload_n hx hb dX5_hear_36 rfl (lv_at hl 0 rfl) ?_
        refine z_callv [0, 1, 2, 3, 4, 5, 6, 7, 8, 9, 11, 12, 13, 14, 15, 16, 17] (va_runV (As := []) (rest := []) ⟨hx, hb, hml, hown, hts⟩ (c_X5_think l G h0 tt rd nw th kp sh tu n1 n2 n3 n4 n5 n6 n7 n8 t1 t2 t3 t4 t5 t6 t7 t8 jg pb lw him tj tb tl fso fmi fpa fki fmo fsz frd uso umi upa uki umo usz urd H.size (by first | exact hjg | assumption | omega) (by first | exact hpb | assumption | omega)) (cwV 0 hts gX5_hear_X5_think rfl rfl rfl (by decide +kernel) ⟨Nat.le_of_ble_eq_true rfl, Nat.le_of_ble_eq_true rfl⟩) ⟨gPre_blind, va_recv (q := (RX5, TX5, 8)) hK hP (ci := 5) (q0 := 0) rfl rfl, fun U hU hW => gPre_ofF [0, 1, 2, 3, 4, 5, 6, 7, 8, 9, 11, 12, 13, 14, 15, 16, 17] hU hW hK hP hD (by decide +kernel) rfl⟩ rfl rfl hl.1 rfl (lv_room (Nat.le_of_ble_eq_true rfl)) dX5_hear_37 ⟨Nat.le_of_ble_eq_true rfl, Nat.le_of_ble_eq_true rfl⟩) hS hD hA rfl (fun u t H locs ht hvm w_28 hB hz1 hk1 hFq hAq hS => ?_)
        obtain ⟨hP1, hK1, hD1⟩ := hB
        have hz9 : gPD G A [zo5 h0 tt rd nw th kp sh tu him, zo0 nw tt n1 n2 n3 n4 n5 n6 n7 n8 (nI jg) (nI pb) (nI lw), zi G n2 4 fso, zi G n3 4 fmi, zi G n4 4 fpa, zi G n5 6 fki, zi G n6 6 fmo, zi G n7 6 fsz, zi G n8 6 frd, zo0 th tt t1 t2 t3 t4 t5 t6 t7 t8 (nI jg) (nI pb) (nI lw), zi G t1 6 unm, zi G t2 4 fso, zi G t3 4 fmi, zi G t4 4 fpa, zi G t5 6 fki, zi G t6 6 fmo, zi G t7 6 fsz, zi G t8 6 frd, zo3 tt co en sk wr (nI tx), zr G co 6 fc, zr G en 6 fe, zi G ct 160 fct, zi G et 3 (nF fet), zi G sk 32 fsk] H := zFill hP hD [0, 1, 2, 3, 4, 5, 6, 7, 8, 9, 11, 12, 13, 14, 15, 16, 17] [1, 2, 3, 4, 5, 6, 7, 8, 9, 10, 0, 11, 12, 13, 14, 15, 16, 17] hAq hk1 hFq ht hP1 hD1 rfl (by decide +kernel)
        have hP := hz9.1
        have hD := hz9.2
        refine g_aget (D := G.1) (ci := 5) (v := .ref th) (C := RX5) (T := TX5) (N := 8) hx hb dX5_hear_40 rfl (lv_at hl 0 rfl) hts hiX5 hown hK hP 0 rfl rfl 3 (by decide +kernel) kf32 (fun _ h9 => h9) rfl dX5_hear_41 ?_
        refine lv_iload_n hx hb dX5_hear_44 rfl (lv_at hl 1 rfl) ?_
        refine g_topi (y := nI (nC v0)) hv_6 ?_
        refine lv_iload_n hx hb dX5_hear_45 rfl (lv_at hl 2 rfl) ?_
        refine g_topi (y := nI (nC v1)) hv_8 ?_
        refine lv_iload_n hx hb dX5_hear_46 rfl (lv_at hl 3 rfl) ?_
        refine g_topi (y := nI (nC v2)) hv_15 ?_
        refine z_calli [9, 10, 11, 12, 13, 14, 15, 16, 17, 18, 19, 20, 21, 22, 23] (v := m_X0_go (nC v0) (nC v1) (nC v2) fso fmi fpa fki fmo fsz frd fct fet) (fun _ ⟨_, _⟩ h => h) (va_runV (As := [.int (nI (nC v0)), .int (nI (nC v1)), .int (nI (nC v2))]) (rest := []) ⟨hx, hb, hml, hown, hts⟩ (c_X0_go l G th tt t1 t2 t3 t4 t5 t6 t7 t8 co en sk ct et lw (nC v0) (nC v1) (nC v2) tx (nI jg) (nI pb) wr unm fso fmi fpa fki fmo fsz frd fc fe fct fet fsk H.size (by first | exact hj | assumption | omega) (by first | exact hp | assumption | omega) (by first | exact hnn | assumption | omega) (by first | exact htn | assumption | omega) (by first | exact hc | assumption | omega) (by first | exact he | assumption | omega) (by first | exact hwx | assumption | omega)) (cwV 3 hts gX5_hear_X0_go rfl rfl rfl (by decide +kernel) ⟨Nat.le_of_ble_eq_true rfl, Nat.le_of_ble_eq_true rfl⟩) ⟨gPre_blind, va_recv (q := (RX0, TX0, 12)) hK hP (ci := 0) (q0 := 9) rfl rfl, fun U hU hW => gPre_ofF [9, 10, 11, 12, 13, 14, 15, 16, 17, 18, 19, 20, 21, 22, 23] hU hW hK hP hD (by decide +kernel) rfl⟩ rfl rfl hl.1 rfl (lv_room (Nat.le_of_ble_eq_true rfl)) dX5_hear_47 ⟨Nat.le_of_ble_eq_true rfl, Nat.le_of_ble_eq_true rfl⟩) hS hD hA rfl (fun u t H locs ht hvm hB hz1 hk1 hFq hAq hS => ?_)
        obtain ⟨yn1_34, ysk_35⟩ := u
        obtain ⟨hP1, hK1, hD1⟩ := hB
        have hz9 : gPD G A [zo5 h0 tt rd nw th kp sh tu him, zo0 nw tt n1 n2 n3 n4 n5 n6 n7 n8 (nI jg) (nI pb) (nI lw), zi G n2 4 fso, zi G n3 4 fmi, zi G n4 4 fpa, zi G n5 6 fki, zi G n6 6 fmo, zi G n7 6 fsz, zi G n8 6 frd, zo0 th tt t1 t2 t3 t4 t5 t6 t7 t8 (nI jg) (nI pb) (nI lw), zi G t1 6 yn1_34, zi G t2 4 (m_X0_go_n2 (nC v0) (nC v1) (nC v2) fso fmi fpa fki fmo fsz frd fct fet), zi G t3 4 (m_X0_go_n3 (nC v0) (nC v1) (nC v2) fso fmi fpa fki fmo fsz frd fct fet), zi G t4 4 (m_X0_go_n4 (nC v0) (nC v1) (nC v2) fso fmi fpa fki fmo fsz frd fct fet), zi G t5 6 fki, zi G t6 6 fmo, zi G t7 6 (m_X0_go_n7 (nC v0) (nC v1) (nC v2) fso fmi fpa fki fmo fsz frd fct fet), zi G t8 6 frd, zo3 tt co en sk wr (nI tx), zr G co 6 fc, zr G en 6 fe, zi G ct 160 fct, zi G et 3 (nF fet), zi G sk 32 ysk_35] H := zFill hP hD [9, 10, 11, 12, 13, 14, 15, 16, 17, 18, 19, 20, 21, 22, 23] [0, 0, 0, 0, 0, 0, 0, 0, 0, 1, 2, 3, 4, 5, 6, 7, 8, 9, 10, 11, 12, 13, 14, 15] hAq hk1 hFq ht hP1 hD1 rfl (by decide +kernel)
        have hP := hz9.1
        have hD := hz9.2
        refine lv_istore (lv' := [zI 5 (m_X0_go (nC v0) (nC v1) (nC v2) fso fmi fpa fki fmo fsz frd fct fet), zR 0 h0, zI 1 v0, zI 2 v1, zI 3 v2, zI 4 v3]) hx hb dX5_hear_50 hl (by decide +kernel) rfl (fun ls hl => ?_)
        refine lv_iload hx hb dX5_hear_52 (lv_at hl 5 rfl) ?_
        refine g_topi (y := nI (nC v3)) hv_25 ?_
        refine lv_iconst (v := 3) hx hb dX5_hear_54 (by decide +kernel) ?_
        refine lv_icmp_ne (tgt := 70) hx hb dX5_hear_55 (by decide +kernel) (fun c_37 => ?_) (fun c_37 => ?_)
        · skip
          have c_37N : ¬ (nC v3) = 3 := nI_eq0 (a := (nC v3)) (b := 3) (by omega) (by omega) c_37
          refine lv_aload_n hx hb dX5_hear_70 rfl (lv_at hl 1 rfl) ?_
          refine lv_iload_n hx hb dX5_hear_71 rfl (lv_at hl 2 rfl) ?_
          refine g_topi (y := nI (nC v0)) hv_6 ?_
          refine lv_iload_n hx hb dX5_hear_72 rfl (lv_at hl 3 rfl) ?_
          refine g_topi (y := nI (nC v1)) hv_8 ?_
          refine lv_iload hx hb dX5_hear_73 (lv_at hl 0 rfl) ?_
          refine lv_iload hx hb dX5_hear_75 (lv_at hl 5 rfl) ?_
          refine g_topi (y := nI (nC v3)) hv_25 ?_
          refine z_calli [0, 9, 10, 11, 12, 13, 14, 15, 16, 17, 18, 19, 20, 21, 22, 23] (v := m_X5_outcome fet (m_X0_go_n2 (nC v0) (nC v1) (nC v2) fso fmi fpa fki fmo fsz frd fct fet) (m_X0_go_n3 (nC v0) (nC v1) (nC v2) fso fmi fpa fki fmo fsz frd fct fet) fmo (m_X0_go_n7 (nC v0) (nC v1) (nC v2) fso fmi fpa fki fmo fsz frd fct fet) frd fct (nC v0) (nC v1) (m_X0_go (nC v0) (nC v1) (nC v2) fso fmi fpa fki fmo fsz frd fct fet) (nI (nC v3))) (fun _ ⟨_, _⟩ h => h) (va_runV (As := [.int (nI (nC v0)), .int (nI (nC v1)), .int (m_X0_go (nC v0) (nC v1) (nC v2) fso fmi fpa fki fmo fsz frd fct fet), .int (nI (nC v3))]) (rest := []) ⟨hx, hb, hml, hown, hts⟩ (c_X5_outcome l G h0 tt rd nw th kp sh tu t1 t2 t3 t4 t5 t6 t7 t8 co en sk ct et lw tx him wr (nI jg) (nI pb) fc fe fet yn1_34 (m_X0_go_n2 (nC v0) (nC v1) (nC v2) fso fmi fpa fki fmo fsz frd fct fet) (m_X0_go_n3 (nC v0) (nC v1) (nC v2) fso fmi fpa fki fmo fsz frd fct fet) (m_X0_go_n4 (nC v0) (nC v1) (nC v2) fso fmi fpa fki fmo fsz frd fct fet) fki fmo (m_X0_go_n7 (nC v0) (nC v1) (nC v2) fso fmi fpa fki fmo fsz frd fct fet) frd fct ysk_35 (nC v0) (nC v1) (m_X0_go (nC v0) (nC v1) (nC v2) fso fmi fpa fki fmo fsz frd fct fet) (nI (nC v3)) H.size (by first | exact hj | assumption | omega) (by first | exact hp | assumption | omega) (by first | exact htn | assumption | omega) (by first | exact hc | assumption | omega) (by first | exact he | assumption | omega) (by first | exact hwx | assumption | omega)) (cwV 4 hts gX5_hear_X5_outcome rfl rfl rfl (by decide +kernel) ⟨Nat.le_of_ble_eq_true rfl, Nat.le_of_ble_eq_true rfl⟩) ⟨gPre_blind, va_recv (q := (RX5, TX5, 8)) hK hP (ci := 5) (q0 := 0) rfl rfl, fun U hU hW => gPre_ofF [0, 9, 10, 11, 12, 13, 14, 15, 16, 17, 18, 19, 20, 21, 22, 23] hU hW hK hP hD (by decide +kernel) rfl⟩ rfl rfl hl.1 rfl (lv_room (Nat.le_of_ble_eq_true rfl)) dX5_hear_77 ⟨Nat.le_of_ble_eq_true rfl, Nat.le_of_ble_eq_true rfl⟩) hS hD hA rfl (fun u t H locs ht hvm hB hz1 hk1 hFq hAq hS => ?_)
          obtain ⟨yt1_43, ysk_44⟩ := u
          obtain ⟨hP1, hK1, hD1⟩ := hB
          have hz9 : gPD G A [zo5 h0 tt rd nw th kp sh tu him, zo0 nw tt n1 n2 n3 n4 n5 n6 n7 n8 (nI jg) (nI pb) (nI lw), zi G n2 4 fso, zi G n3 4 fmi, zi G n4 4 fpa, zi G n5 6 fki, zi G n6 6 fmo, zi G n7 6 fsz, zi G n8 6 frd, zo0 th tt t1 t2 t3 t4 t5 t6 t7 t8 (nI jg) (nI pb) (nI lw), zi G t1 6 yt1_43, zi G t2 4 (m_X0_go_n2 (nC v0) (nC v1) (nC v2) fso fmi fpa fki fmo fsz frd fct fet), zi G t3 4 (m_X0_go_n3 (nC v0) (nC v1) (nC v2) fso fmi fpa fki fmo fsz frd fct fet), zi G t4 4 (m_X0_go_n4 (nC v0) (nC v1) (nC v2) fso fmi fpa fki fmo fsz frd fct fet), zi G t5 6 fki, zi G t6 6 fmo, zi G t7 6 (m_X0_go_n7 (nC v0) (nC v1) (nC v2) fso fmi fpa fki fmo fsz frd fct fet), zi G t8 6 frd, zo3 tt co en sk wr (nI tx), zr G co 6 fc, zr G en 6 fe, zi G ct 160 fct, zi G et 3 (nF fet), zi G sk 32 ysk_44] H := zFill hP hD [0, 9, 10, 11, 12, 13, 14, 15, 16, 17, 18, 19, 20, 21, 22, 23] [1, 0, 0, 0, 0, 0, 0, 0, 0, 2, 3, 4, 5, 6, 7, 8, 9, 10, 11, 12, 13, 14, 15, 16] hAq hk1 hFq ht hP1 hD1 rfl (by decide +kernel)
          have hP := hz9.1
          have hD := hz9.2
          have q_45 : m_X5_hear_th9 jg pb tj v0 v1 v2 v3 = (nI jg) := by unfold m_X5_hear_th9; rw [if_pos p_4, if_pos p_13, if_pos p_23]
          have q_46 : m_X5_hear_th10 jg pb tb v0 v1 v2 v3 = (nI pb) := by unfold m_X5_hear_th10; rw [if_pos p_4, if_pos p_13, if_pos p_23]
          have q_47 : m_X5_hear_th11 jg pb lw tl v0 v1 v2 v3 = nI lw := by unfold m_X5_hear_th11; rw [if_pos p_4, if_pos p_13, if_pos p_23]
          have hz9 : gPD G A [zo5 h0 tt rd nw th kp sh tu him, zo0 nw tt n1 n2 n3 n4 n5 n6 n7 n8 (nI jg) (nI pb) (nI lw), zi G n2 4 fso, zi G n3 4 fmi, zi G n4 4 fpa, zi G n5 6 fki, zi G n6 6 fmo, zi G n7 6 fsz, zi G n8 6 frd, zo0 th tt t1 t2 t3 t4 t5 t6 t7 t8 (m_X5_hear_th9 jg pb tj v0 v1 v2 v3) (m_X5_hear_th10 jg pb tb v0 v1 v2 v3) (m_X5_hear_th11 jg pb lw tl v0 v1 v2 v3), zi G t1 6 yt1_43, zi G t2 4 (m_X0_go_n2 (nC v0) (nC v1) (nC v2) fso fmi fpa fki fmo fsz frd fct fet), zi G t3 4 (m_X0_go_n3 (nC v0) (nC v1) (nC v2) fso fmi fpa fki fmo fsz frd fct fet), zi G t4 4 (m_X0_go_n4 (nC v0) (nC v1) (nC v2) fso fmi fpa fki fmo fsz frd fct fet), zi G t5 6 fki, zi G t6 6 fmo, zi G t7 6 (m_X0_go_n7 (nC v0) (nC v1) (nC v2) fso fmi fpa fki fmo fsz frd fct fet), zi G t8 6 frd, zo3 tt co en sk wr (nI tx), zr G co 6 fc, zr G en 6 fe, zi G ct 160 fct, zi G et 3 (nF fet), zi G sk 32 ysk_44] H := ⟨by rw [q_45, q_46, q_47]; exact hP, by rw [q_45, q_46, q_47]; exact hD⟩
          have hP9 := hz9.1
          have hD9 := hz9.2
          have hpost : (fun (r : Int32) (u : (Nat → Int32) × (Nat → Int32) × (Nat → Int32) × (Nat → Int32) × (Nat → Int32) × (Nat → Int32) × (Nat → Int32) × (Nat → Int32) × (Nat → Int32)) => match u with | (yt1, yt2, yt3, yt4, yt5, yt6, yt7, yt8, ysk) => r = m_X5_hear jg pb fet fso fmi fpa fki fmo fsz frd fct v0 v1 v2 v3) (m_X5_outcome fet (m_X0_go_n2 (nC v0) (nC v1) (nC v2) fso fmi fpa fki fmo fsz frd fct fet) (m_X0_go_n3 (nC v0) (nC v1) (nC v2) fso fmi fpa fki fmo fsz frd fct fet) fmo (m_X0_go_n7 (nC v0) (nC v1) (nC v2) fso fmi fpa fki fmo fsz frd fct fet) frd fct (nC v0) (nC v1) (m_X0_go (nC v0) (nC v1) (nC v2) fso fmi fpa fki fmo fsz frd fct fet) (nI (nC v3))) (yt1_43, (m_X0_go_n2 (nC v0) (nC v1) (nC v2) fso fmi fpa fki fmo fsz frd fct fet), (m_X0_go_n3 (nC v0) (nC v1) (nC v2) fso fmi fpa fki fmo fsz frd fct fet), (m_X0_go_n4 (nC v0) (nC v1) (nC v2) fso fmi fpa fki fmo fsz frd fct fet), fki, fmo, (m_X0_go_n7 (nC v0) (nC v1) (nC v2) fso fmi fpa fki fmo fsz frd fct fet), frd, ysk_44) := (show m_X5_hear jg pb fet fso fmi fpa fki fmo fsz frd fct v0 v1 v2 v3 = (m_X5_outcome fet (m_X0_go_n2 (nC v0) (nC v1) (nC v2) fso fmi fpa fki fmo fsz frd fct fet) (m_X0_go_n3 (nC v0) (nC v1) (nC v2) fso fmi fpa fki fmo fsz frd fct fet) fmo (m_X0_go_n7 (nC v0) (nC v1) (nC v2) fso fmi fpa fki fmo fsz frd fct fet) frd fct (nC v0) (nC v1) (m_X0_go (nC v0) (nC v1) (nC v2) fso fmi fpa fki fmo fsz frd fct fet) (nI (nC v3))) from by unfold m_X5_hear; rw [if_pos p_4, if_pos p_13, if_pos p_23, if_neg c_37]).symm
          exact W.iret (v := (m_X5_outcome fet (m_X0_go_n2 (nC v0) (nC v1) (nC v2) fso fmi fpa fki fmo fsz frd fct fet) (m_X0_go_n3 (nC v0) (nC v1) (nC v2) fso fmi fpa fki fmo fsz frd fct fet) fmo (m_X0_go_n7 (nC v0) (nC v1) (nC v2) fso fmi fpa fki fmo fsz frd fct fet) frd fct (nC v0) (nC v1) (m_X0_go (nC v0) (nC v1) (nC v2) fso fmi fpa fki fmo fsz frd fct fet) (nI (nC v3)))) hx hb hr (fun t ht hW => ⟨⟨(m_X5_outcome fet (m_X0_go_n2 (nC v0) (nC v1) (nC v2) fso fmi fpa fki fmo fsz frd fct fet) (m_X0_go_n3 (nC v0) (nC v1) (nC v2) fso fmi fpa fki fmo fsz frd fct fet) fmo (m_X0_go_n7 (nC v0) (nC v1) (nC v2) fso fmi fpa fki fmo fsz frd fct fet) frd fct (nC v0) (nC v1) (m_X0_go (nC v0) (nC v1) (nC v2) fso fmi fpa fki fmo fsz frd fct fet) (nI (nC v3))), (yt1_43, (m_X0_go_n2 (nC v0) (nC v1) (nC v2) fso fmi fpa fki fmo fsz frd fct fet), (m_X0_go_n3 (nC v0) (nC v1) (nC v2) fso fmi fpa fki fmo fsz frd fct fet), (m_X0_go_n4 (nC v0) (nC v1) (nC v2) fso fmi fpa fki fmo fsz frd fct fet), fki, fmo, (m_X0_go_n7 (nC v0) (nC v1) (nC v2) fso fmi fpa fki fmo fsz frd fct fet), frd, ysk_44), rfl, hpost, by rw [ht]; exact hP9, va_K.moved hW.alike hK, hD9⟩, hS.F ht⟩) hS.2.2 dX5_hear_80
        · skip
          have c_37N : (nC v3) = 3 := nI_eq1 (a := (nC v3)) (b := 3) (by omega) (by omega) c_37
          refine g_aget (D := G.1) (ci := 5) (v := .ref th) (C := RX5) (T := TX5) (N := 8) hx hb dX5_hear_58 rfl (lv_at hl 1 rfl) hts hiX5 hown hK hP 0 rfl rfl 3 (by decide +kernel) kf32 (fun _ h9 => h9) rfl dX5_hear_59 ?_
          refine va_get (D := G.1) (ci := 0) (v := .ref t2) (C := RX0) (T := TX0) (N := 12) hx hb hts hiX0 hown hK hP 9 rfl rfl 2 (by decide +kernel) kf98 (fun _ h9 => h9) rfl dX5_hear_62 ?_
          refine lv_iload_n hx hb dX5_hear_65 rfl (lv_at hl 2 rfl) ?_
          refine g_topi (y := nI (nC v0)) hv_6 ?_
          refine g_iald (D := G.1) hx hb hK hP 11 0 rfl rfl (k := nC v0) (y := (m_X0_go_n2 (nC v0) (nC v1) (nC v2) fso fmi fpa fki fmo fsz frd fct fet) (nC v0)) (by omega) rfl rfl dX5_hear_66 ?_
          refine lv_goto (tgt := 80) hx hb dX5_hear_67 (by decide +kernel) ?_
          have q_50 : m_X5_hear_th9 jg pb tj v0 v1 v2 v3 = (nI jg) := by unfold m_X5_hear_th9; rw [if_pos p_4, if_pos p_13, if_pos p_23]
          have q_51 : m_X5_hear_th10 jg pb tb v0 v1 v2 v3 = (nI pb) := by unfold m_X5_hear_th10; rw [if_pos p_4, if_pos p_13, if_pos p_23]
          have q_52 : m_X5_hear_th11 jg pb lw tl v0 v1 v2 v3 = nI lw := by unfold m_X5_hear_th11; rw [if_pos p_4, if_pos p_13, if_pos p_23]
          have hz9 : gPD G A [zo5 h0 tt rd nw th kp sh tu him, zo0 nw tt n1 n2 n3 n4 n5 n6 n7 n8 (nI jg) (nI pb) (nI lw), zi G n2 4 fso, zi G n3 4 fmi, zi G n4 4 fpa, zi G n5 6 fki, zi G n6 6 fmo, zi G n7 6 fsz, zi G n8 6 frd, zo0 th tt t1 t2 t3 t4 t5 t6 t7 t8 (m_X5_hear_th9 jg pb tj v0 v1 v2 v3) (m_X5_hear_th10 jg pb tb v0 v1 v2 v3) (m_X5_hear_th11 jg pb lw tl v0 v1 v2 v3), zi G t1 6 yn1_34, zi G t2 4 (m_X0_go_n2 (nC v0) (nC v1) (nC v2) fso fmi fpa fki fmo fsz frd fct fet), zi G t3 4 (m_X0_go_n3 (nC v0) (nC v1) (nC v2) fso fmi fpa fki fmo fsz frd fct fet), zi G t4 4 (m_X0_go_n4 (nC v0) (nC v1) (nC v2) fso fmi fpa fki fmo fsz frd fct fet), zi G t5 6 fki, zi G t6 6 fmo, zi G t7 6 (m_X0_go_n7 (nC v0) (nC v1) (nC v2) fso fmi fpa fki fmo fsz frd fct fet), zi G t8 6 frd, zo3 tt co en sk wr (nI tx), zr G co 6 fc, zr G en 6 fe, zi G ct 160 fct, zi G et 3 (nF fet), zi G sk 32 ysk_35] H := ⟨by rw [q_50, q_51, q_52]; exact hP, by rw [q_50, q_51, q_52]; exact hD⟩
          have hP9 := hz9.1
          have hD9 := hz9.2
          have hpost : (fun (r : Int32) (u : (Nat → Int32) × (Nat → Int32) × (Nat → Int32) × (Nat → Int32) × (Nat → Int32) × (Nat → Int32) × (Nat → Int32) × (Nat → Int32) × (Nat → Int32)) => match u with | (yt1, yt2, yt3, yt4, yt5, yt6, yt7, yt8, ysk) => r = m_X5_hear jg pb fet fso fmi fpa fki fmo fsz frd fct v0 v1 v2 v3) ((m_X0_go_n2 (nC v0) (nC v1) (nC v2) fso fmi fpa fki fmo fsz frd fct fet) (nC v0)) (yn1_34, (m_X0_go_n2 (nC v0) (nC v1) (nC v2) fso fmi fpa fki fmo fsz frd fct fet), (m_X0_go_n3 (nC v0) (nC v1) (nC v2) fso fmi fpa fki fmo fsz frd fct fet), (m_X0_go_n4 (nC v0) (nC v1) (nC v2) fso fmi fpa fki fmo fsz frd fct fet), fki, fmo, (m_X0_go_n7 (nC v0) (nC v1) (nC v2) fso fmi fpa fki fmo fsz frd fct fet), frd, ysk_35) := (show m_X5_hear jg pb fet fso fmi fpa fki fmo fsz frd fct v0 v1 v2 v3 = ((m_X0_go_n2 (nC v0) (nC v1) (nC v2) fso fmi fpa fki fmo fsz frd fct fet) (nC v0)) from by unfold m_X5_hear; rw [if_pos p_4, if_pos p_13, if_pos p_23, if_pos c_37]).symm
          exact W.iret (v := ((m_X0_go_n2 (nC v0) (nC v1) (nC v2) fso fmi fpa fki fmo fsz frd fct fet) (nC v0))) hx hb hr (fun t ht hW => ⟨⟨((m_X0_go_n2 (nC v0) (nC v1) (nC v2) fso fmi fpa fki fmo fsz frd fct fet) (nC v0)), (yn1_34, (m_X0_go_n2 (nC v0) (nC v1) (nC v2) fso fmi fpa fki fmo fsz frd fct fet), (m_X0_go_n3 (nC v0) (nC v1) (nC v2) fso fmi fpa fki fmo fsz frd fct fet), (m_X0_go_n4 (nC v0) (nC v1) (nC v2) fso fmi fpa fki fmo fsz frd fct fet), fki, fmo, (m_X0_go_n7 (nC v0) (nC v1) (nC v2) fso fmi fpa fki fmo fsz frd fct fet), frd, ysk_35), rfl, hpost, by rw [ht]; exact hP9, va_K.moved hW.alike hK, hD9⟩, hS.F ht⟩) hS.2.2 dX5_hear_80
      · skip
        have n_24 : ¬ (0 ≤ v3 ∧ v3 ≤ 3) := of_decide_eq_false (bz_eq rfl c_22)
        refine lv_bipush (v := -7) hx hb dX5_hear_33 (by decide +kernel) ?_
        have q_53 : m_X5_hear_th9 jg pb tj v0 v1 v2 v3 = tj := by unfold m_X5_hear_th9; rw [if_pos p_4, if_pos p_13, if_neg n_24]
        have q_54 : m_X5_hear_th10 jg pb tb v0 v1 v2 v3 = tb := by unfold m_X5_hear_th10; rw [if_pos p_4, if_pos p_13, if_neg n_24]
        have q_55 : m_X5_hear_th11 jg pb lw tl v0 v1 v2 v3 = tl := by unfold m_X5_hear_th11; rw [if_pos p_4, if_pos p_13, if_neg n_24]
        have hz9 : gPD G A [zo5 h0 tt rd nw th kp sh tu him, zo0 nw tt n1 n2 n3 n4 n5 n6 n7 n8 (nI jg) (nI pb) (nI lw), zi G n2 4 fso, zi G n3 4 fmi, zi G n4 4 fpa, zi G n5 6 fki, zi G n6 6 fmo, zi G n7 6 fsz, zi G n8 6 frd, zo0 th tt t1 t2 t3 t4 t5 t6 t7 t8 (m_X5_hear_th9 jg pb tj v0 v1 v2 v3) (m_X5_hear_th10 jg pb tb v0 v1 v2 v3) (m_X5_hear_th11 jg pb lw tl v0 v1 v2 v3), zi G t1 6 unm, zi G t2 4 uso, zi G t3 4 umi, zi G t4 4 upa, zi G t5 6 uki, zi G t6 6 umo, zi G t7 6 usz, zi G t8 6 urd, zo3 tt co en sk wr (nI tx), zr G co 6 fc, zr G en 6 fe, zi G ct 160 fct, zi G et 3 (nF fet), zi G sk 32 fsk] H := ⟨by rw [q_53, q_54, q_55]; exact hP, by rw [q_53, q_54, q_55]; exact hD⟩
        have hP9 := hz9.1
        have hD9 := hz9.2
        have hpost : (fun (r : Int32) (u : (Nat → Int32) × (Nat → Int32) × (Nat → Int32) × (Nat → Int32) × (Nat → Int32) × (Nat → Int32) × (Nat → Int32) × (Nat → Int32) × (Nat → Int32)) => match u with | (yt1, yt2, yt3, yt4, yt5, yt6, yt7, yt8, ysk) => r = m_X5_hear jg pb fet fso fmi fpa fki fmo fsz frd fct v0 v1 v2 v3) (-7) (unm, uso, umi, upa, uki, umo, usz, urd, fsk) := (show m_X5_hear jg pb fet fso fmi fpa fki fmo fsz frd fct v0 v1 v2 v3 = (-7) from by unfold m_X5_hear; rw [if_pos p_4, if_pos p_13, if_neg n_24]).symm
        exact W.iret (v := (-7)) hx hb hr (fun t ht hW => ⟨⟨(-7), (unm, uso, umi, upa, uki, umo, usz, urd, fsk), rfl, hpost, by rw [ht]; exact hP9, va_K.moved hW.alike hK, hD9⟩, hS.F ht⟩) hS.2.2 dX5_hear_35
  · skip
    have n_5 : (mBoth jg pb v0 v1) = false := bz_eq rfl c_3
    have n_5N : ¬ ((mBoth jg pb v0 v1) = true) := by rw [n_5]; decide
    refine lv_bipush (v := -5) hx hb dX5_hear_12 (by decide +kernel) ?_
    have q_56 : m_X5_hear_th9 jg pb tj v0 v1 v2 v3 = tj := by unfold m_X5_hear_th9; rw [if_neg n_5N]
    have q_57 : m_X5_hear_th10 jg pb tb v0 v1 v2 v3 = tb := by unfold m_X5_hear_th10; rw [if_neg n_5N]
    have q_58 : m_X5_hear_th11 jg pb lw tl v0 v1 v2 v3 = tl := by unfold m_X5_hear_th11; rw [if_neg n_5N]
    have hz9 : gPD G A [zo5 h0 tt rd nw th kp sh tu him, zo0 nw tt n1 n2 n3 n4 n5 n6 n7 n8 (nI jg) (nI pb) (nI lw), zi G n2 4 fso, zi G n3 4 fmi, zi G n4 4 fpa, zi G n5 6 fki, zi G n6 6 fmo, zi G n7 6 fsz, zi G n8 6 frd, zo0 th tt t1 t2 t3 t4 t5 t6 t7 t8 (m_X5_hear_th9 jg pb tj v0 v1 v2 v3) (m_X5_hear_th10 jg pb tb v0 v1 v2 v3) (m_X5_hear_th11 jg pb lw tl v0 v1 v2 v3), zi G t1 6 unm, zi G t2 4 uso, zi G t3 4 umi, zi G t4 4 upa, zi G t5 6 uki, zi G t6 6 umo, zi G t7 6 usz, zi G t8 6 urd, zo3 tt co en sk wr (nI tx), zr G co 6 fc, zr G en 6 fe, zi G ct 160 fct, zi G et 3 (nF fet), zi G sk 32 fsk] H := ⟨by rw [q_56, q_57, q_58]; exact hP, by rw [q_56, q_57, q_58]; exact hD⟩
    have hP9 := hz9.1
    have hD9 := hz9.2
    have hpost : (fun (r : Int32) (u : (Nat → Int32) × (Nat → Int32) × (Nat → Int32) × (Nat → Int32) × (Nat → Int32) × (Nat → Int32) × (Nat → Int32) × (Nat → Int32) × (Nat → Int32)) => match u with | (yt1, yt2, yt3, yt4, yt5, yt6, yt7, yt8, ysk) => r = m_X5_hear jg pb fet fso fmi fpa fki fmo fsz frd fct v0 v1 v2 v3) (-5) (unm, uso, umi, upa, uki, umo, usz, urd, fsk) := (show m_X5_hear jg pb fet fso fmi fpa fki fmo fsz frd fct v0 v1 v2 v3 = (-5) from by unfold m_X5_hear; rw [if_neg n_5N]).symm
    exact W.iret (v := (-5)) hx hb hr (fun t ht hW => ⟨⟨(-5), (unm, uso, umi, upa, uki, umo, usz, urd, fsk), rfl, hpost, by rw [ht]; exact hP9, va_K.moved hW.alike hK, hD9⟩, hS.F ht⟩) hS.2.2 dX5_hear_14
noncomputable def m_X5_fewest (jg : Nat) (pb : Nat) (fet : Nat → Nat) (fso : Nat → Int32) (fmi : Nat → Int32) (fpa : Nat → Int32) (fki : Nat → Int32) (fmo : Nat → Int32) (fsz : Nat → Int32) (frd : Nat → Int32) (fct : Nat → Int32) (v0 : Int32) (v1 : Int32) : Int32 := if (mBoth jg pb v0 v1) = true then m_X5_leastBit (m_X5_guiltyBits fet fso fmi fpa fki fmo fsz frd fct (nC v0) (nC v1)) else -5
noncomputable def m_X5_fewest_th9 (jg : Nat) (pb : Nat) (tj : Int32) (v0 : Int32) (v1 : Int32) : Int32 := if (mBoth jg pb v0 v1) = true then nI jg else tj
noncomputable def m_X5_fewest_th10 (jg : Nat) (pb : Nat) (tb : Int32) (v0 : Int32) (v1 : Int32) : Int32 := if (mBoth jg pb v0 v1) = true then nI pb else tb
noncomputable def m_X5_fewest_th11 (jg : Nat) (pb : Nat) (lw : Nat) (tl : Int32) (v0 : Int32) (v1 : Int32) : Int32 := if (mBoth jg pb v0 v1) = true then nI lw else tl
abbrev q_X5_fewest (G : gG) (h0 tt rd nw th kp sh tu n1 n2 n3 n4 n5 n6 n7 n8 t1 t2 t3 t4 t5 t6 t7 t8 co en sk ct et : Nat) (jg : Nat) (pb : Nat) (lw : Nat) (tx : Nat) (him : Int32) (wr : Int32) (tj : Int32) (tb : Int32) (tl : Int32) (fc : Nat → Option Nat) (fe : Nat → Option Nat) (fet : Nat → Nat) (fso : Nat → Int32) (fmi : Nat → Int32) (fpa : Nat → Int32) (fki : Nat → Int32) (fmo : Nat → Int32) (fsz : Nat → Int32) (frd : Nat → Int32) (unm : Nat → Int32) (uso : Nat → Int32) (umi : Nat → Int32) (upa : Nat → Int32) (uki : Nat → Int32) (umo : Nat → Int32) (usz : Nat → Int32) (urd : Nat → Int32) (fct : Nat → Int32) (fsk : Nat → Int32) (v0 : Int32) (v1 : Int32) (A : Nat → Prop) : Array Value → State → Outcome → State → Prop := va_Qi (fun (r : Int32) (u : (Nat → Int32) × (Nat → Int32) × (Nat → Int32) × (Nat → Int32) × (Nat → Int32) × (Nat → Int32) × (Nat → Int32) × (Nat → Int32) × (Nat → Int32)) => match u with | (yt1, yt2, yt3, yt4, yt5, yt6, yt7, yt8, ysk) => r = m_X5_fewest jg pb fet fso fmi fpa fki fmo fsz frd fct v0 v1) (fun (u : (Nat → Int32) × (Nat → Int32) × (Nat → Int32) × (Nat → Int32) × (Nat → Int32) × (Nat → Int32) × (Nat → Int32) × (Nat → Int32) × (Nat → Int32)) t => match u with | (yt1, yt2, yt3, yt4, yt5, yt6, yt7, yt8, ysk) => va_P G.1 vwCl [zo5 h0 tt rd nw th kp sh tu him, zo0 nw tt n1 n2 n3 n4 n5 n6 n7 n8 (nI jg) (nI pb) (nI lw), zi G n2 4 fso, zi G n3 4 fmi, zi G n4 4 fpa, zi G n5 6 fki, zi G n6 6 fmo, zi G n7 6 fsz, zi G n8 6 frd, zo0 th tt t1 t2 t3 t4 t5 t6 t7 t8 (m_X5_fewest_th9 jg pb tj v0 v1) (m_X5_fewest_th10 jg pb tb v0 v1) (m_X5_fewest_th11 jg pb lw tl v0 v1), zi G t1 6 yt1, zi G t2 4 yt2, zi G t3 4 yt3, zi G t4 4 yt4, zi G t5 6 yt5, zi G t6 6 yt6, zi G t7 6 yt7, zi G t8 6 yt8, zo3 tt co en sk wr (nI tx), zr G co 6 fc, zr G en 6 fe, zi G ct 160 fct, zi G et 3 (nF fet), zi G sk 32 ysk] t.heap ∧ gK G t ∧ va_D A [zo5 h0 tt rd nw th kp sh tu him, zo0 nw tt n1 n2 n3 n4 n5 n6 n7 n8 (nI jg) (nI pb) (nI lw), zi G n2 4 fso, zi G n3 4 fmi, zi G n4 4 fpa, zi G n5 6 fki, zi G n6 6 fmo, zi G n7 6 fsz, zi G n8 6 frd, zo0 th tt t1 t2 t3 t4 t5 t6 t7 t8 (m_X5_fewest_th9 jg pb tj v0 v1) (m_X5_fewest_th10 jg pb tb v0 v1) (m_X5_fewest_th11 jg pb lw tl v0 v1), zi G t1 6 yt1, zi G t2 4 yt2, zi G t3 4 yt3, zi G t4 4 yt4, zi G t5 6 yt5, zi G t6 6 yt6, zi G t7 6 yt7, zi G t8 6 yt8, zo3 tt co en sk wr (nI tx), zr G co 6 fc, zr G en 6 fe, zi G ct 160 fct, zi G et 3 (nF fet), zi G sk 32 ysk]) A
set_option maxHeartbeats 4000000 in
set_option maxRecDepth 100000 in
theorem c_X5_fewest (l : Launch) (G : gG) (h0 tt rd nw th kp sh tu n1 n2 n3 n4 n5 n6 n7 n8 t1 t2 t3 t4 t5 t6 t7 t8 co en sk ct et : Nat) (jg : Nat) (pb : Nat) (lw : Nat) (tx : Nat) (him : Int32) (wr : Int32) (tj : Int32) (tb : Int32) (tl : Int32) (fc : Nat → Option Nat) (fe : Nat → Option Nat) (fet : Nat → Nat) (fso : Nat → Int32) (fmi : Nat → Int32) (fpa : Nat → Int32) (fki : Nat → Int32) (fmo : Nat → Int32) (fsz : Nat → Int32) (frd : Nat → Int32) (unm : Nat → Int32) (uso : Nat → Int32) (umi : Nat → Int32) (upa : Nat → Int32) (uki : Nat → Int32) (umo : Nat → Int32) (usz : Nat → Int32) (urd : Nat → Int32) (fct : Nat → Int32) (fsk : Nat → Int32) (v0 : Int32) (v1 : Int32) (sz : Nat) (htn : lw < tx ∧ tx ≤ 6) (hc : fc lw = some ct) (he : fe lw = some et) (hwx : mWx fct fet) (hjg : jg ≤ 4) (hpb : pb ≤ 6) : Met l yX5_fewest wsX5_fewest ({ frames := 5, cells := 0, slots := 0, locals := 467 }) (gPre G [.ref h0, .int v0, .int v1] [zo5 h0 tt rd nw th kp sh tu him, zo0 nw tt n1 n2 n3 n4 n5 n6 n7 n8 (nI jg) (nI pb) (nI lw), zi G n2 4 fso, zi G n3 4 fmi, zi G n4 4 fpa, zi G n5 6 fki, zi G n6 6 fmo, zi G n7 6 fsz, zi G n8 6 frd, zo0 th tt t1 t2 t3 t4 t5 t6 t7 t8 tj tb tl, zi G t1 6 unm, zi G t2 4 uso, zi G t3 4 umi, zi G t4 4 upa, zi G t5 6 uki, zi G t6 6 umo, zi G t7 6 usz, zi G t8 6 urd, zo3 tt co en sk wr (nI tx), zr G co 6 fc, zr G en 6 fe, zi G ct 160 fct, zi G et 3 (nF fet), zi G sk 32 fsk] sz) (q_X5_fewest G h0 tt rd nw th kp sh tu n1 n2 n3 n4 n5 n6 n7 n8 t1 t2 t3 t4 t5 t6 t7 t8 co en sk ct et jg pb lw tx him wr tj tb tl fc fe fet fso fmi fpa fki fmo fsz frd unm uso umi upa uki umo usz urd fct fsk v0 v1 (va_A [zo5 h0 tt rd nw th kp sh tu him, zo0 nw tt n1 n2 n3 n4 n5 n6 n7 n8 (nI jg) (nI pb) (nI lw), zi G n2 4 fso, zi G n3 4 fmi, zi G n4 4 fpa, zi G n5 6 fki, zi G n6 6 fmo, zi G n7 6 fsz, zi G n8 6 frd, zo0 th tt t1 t2 t3 t4 t5 t6 t7 t8 tj tb tl, zi G t1 6 unm, zi G t2 4 uso, zi G t3 4 umi, zi G t4 4 upa, zi G t5 6 uki, zi G t6 6 umo, zi G t7 6 usz, zi G t8 6 urd, zo3 tt co en sk wr (nI tx), zr G co 6 fc, zr G en 6 fe, zi G ct 160 fct, zi G et 3 (nF fet), zi G sk 32 fsk] sz)) 0 0 (va_A [zo5 h0 tt rd nw th kp sh tu him, zo0 nw tt n1 n2 n3 n4 n5 n6 n7 n8 (nI jg) (nI pb) (nI lw), zi G n2 4 fso, zi G n3 4 fmi, zi G n4 4 fpa, zi G n5 6 fki, zi G n6 6 fmo, zi G n7 6 fsz, zi G n8 6 frd, zo0 th tt t1 t2 t3 t4 t5 t6 t7 t8 tj tb tl, zi G t1 6 unm, zi G t2 4 uso, zi G t3 4 umi, zi G t4 4 upa, zi G t5 6 uki, zi G t6 6 umo, zi G t7 6 usz, zi G t8 6 urd, zo3 tt co en sk wr (nI tx), zr G co 6 fc, zr G en 6 fe, zi G ct 160 fct, zi G et 3 (nF fet), zi G sk 32 fsk] sz) := by
  refine Met.ofW (cc := cX5_fewest) (maxL := 3) (ret := (some .int)) (by decide +kernel) rfl ?_
  intro p e s m args below meth c s₁ B hml hv
  obtain ⟨rfl, hsz, hP, hK, hD0⟩ := hv
  have hx := B.exec
  have hb := B.bytes
  have hr := B.returns
  have hts := atoms_spec (ws := wsX5_fewest) B.pre
  have hown : s.vm.findClass RX5 = some m.cls := findClass_of_methodNamed B.named
  have hlocks := B.notSynchronized
  subst hsz
  have hD := hD0.self (sz := s.heap.size)
  generalize hAe : va_A [zo5 h0 tt rd nw th kp sh tu him, zo0 nw tt n1 n2 n3 n4 n5 n6 n7 n8 (nI jg) (nI pb) (nI lw), zi G n2 4 fso, zi G n3 4 fmi, zi G n4 4 fpa, zi G n5 6 fki, zi G n6 6 fmo, zi G n7 6 fsz, zi G n8 6 frd, zo0 th tt t1 t2 t3 t4 t5 t6 t7 t8 tj tb tl, zi G t1 6 unm, zi G t2 4 uso, zi G t3 4 umi, zi G t4 4 upa, zi G t5 6 uki, zi G t6 6 umo, zi G t7 6 usz, zi G t8 6 urd, zo3 tt co en sk wr (nI tx), zr G co 6 fc, zr G en 6 fe, zi G ct 160 fct, zi G et 3 (nF fet), zi G sk 32 fsk] s.heap.size = A at hD ⊢
  have hA : ∀ q : Nat, s.heap.size ≤ q → A q := fun q h => by rw [← hAe]; exact Or.inr h
  have hS : va_S A s.heap s.heap [] := va_S.rf
  have hz9 : gPD G A [zo5 h0 tt rd nw th kp sh tu him, zo0 nw tt n1 n2 n3 n4 n5 n6 n7 n8 (nI jg) (nI pb) (nI lw), zi G n2 4 fso, zi G n3 4 fmi, zi G n4 4 fpa, zi G n5 6 fki, zi G n6 6 fmo, zi G n7 6 fsz, zi G n8 6 frd, zo0 th tt t1 t2 t3 t4 t5 t6 t7 t8 tj tb tl, zi G t1 6 unm, zi G t2 4 uso, zi G t3 4 umi, zi G t4 4 upa, zi G t5 6 uki, zi G t6 6 umo, zi G t7 6 usz, zi G t8 6 urd, zo3 tt co en sk wr (nI tx), zr G co 6 fc, zr G en 6 fe, zi G ct 160 fct, zi G et 3 (nF fet), zi G sk 32 fsk] s.heap := ⟨hP, hD⟩
  have hP := hz9.1
  have hD := hz9.2
  have hl := lv_entry ([.ref h0, .int v0, .int v1]) (n := 3) (Nat.le_of_ble_eq_true rfl)
  rw [lg_entry_eq]
  generalize (lg_sl ([.ref h0, .int v0, .int v1]) ++ List.replicate (3 - (lg_sl ([.ref h0, .int v0, .int v1])).length) Slot.unset).toArray = ls at hl ⊢
  have hl : lv_has ls 3 [zR 0 h0, zI 1 v0, zI 2 v1] := hl
  have kf28 := hts (.fieldLink RX5 28 "PebbleInShoe" "now" "LPebbleInShoe$Court;") (by decide +kernel)
  have hiX5 := (by decide +kernel : ∀ w ∈ wsX50, w ∈ wsX5_fewest)
  refine g_aget (D := G.1) (ci := 5) (v := .ref nw) (C := RX5) (T := TX5) (N := 8) hx hb dX5_fewest_0 rfl (lv_at hl 0 rfl) hts hiX5 hown hK hP 0 rfl rfl 2 (by decide +kernel) kf28 (fun _ h9 => h9) rfl dX5_fewest_1 ?_
  refine lv_iload_n hx hb dX5_fewest_4 rfl (lv_at hl 1 rfl) ?_
  refine lv_iload_n hx hb dX5_fewest_5 rfl (lv_at hl 2 rfl) ?_
  refine z_calli [1] (v := bz (mBoth jg pb v0 v1)) (fun _ _ h => h) (va_runV (As := [.int v0, .int v1]) (rest := []) ⟨hx, hb, hml, hown, hts⟩ (c_X0_hasBoth_g l G nw tt n1 n2 n3 n4 n5 n6 n7 n8 jg pb lw v0 v1 s.heap.size (by first | exact hjg | assumption | omega) (by first | exact hpb | assumption | omega)) (cwV 2 hts gX5_fewest_X0_hasBoth rfl rfl rfl (by decide +kernel) ⟨Nat.le_of_ble_eq_true rfl, Nat.le_of_ble_eq_true rfl⟩) ⟨gPre_blind, va_recv (q := (RX0, TX0, 12)) hK hP (ci := 0) (q0 := 1) rfl rfl, fun U hU hW => gPre_ofF [1] hU hW hK hP hD (by decide +kernel) rfl⟩ rfl rfl hl.1 rfl (lv_room (Nat.le_of_ble_eq_true rfl)) dX5_fewest_6 ⟨Nat.le_of_ble_eq_true rfl, Nat.le_of_ble_eq_true rfl⟩) hS hD hA rfl (fun u t H locs ht hvm hB hz1 hk1 hFq hAq hS => ?_)
  obtain ⟨hP1, hK1, hD1⟩ := hB
  have hP := zKeep hP hD [1] hAq hk1 ht hP1 rfl
  refine lv_if_ne (tgt := 15) hx hb dX5_fewest_9 (by decide +kernel) (fun c_3 => ?_) (fun c_3 => ?_)
  · skip
    have p_4 : (mBoth jg pb v0 v1) = true := bz_ne rfl c_3
    have hv_6 : v0 = nI (nC v0) := mHas_eq (mBoth_1 p_4)
    have hk_7 : nC v0 < jg := mHas_lt (by omega) (mBoth_1 p_4)
    have hv_8 : v1 = nI (nC v1) := mHas_eq (mBoth_2 p_4)
    have hk_9 : nC v1 < pb := mHas_lt (by omega) (mBoth_2 p_4)
    refine lv_aload_n hx hb dX5_fewest_15 rfl (lv_at hl 0 rfl) ?_
    refine lv_iload_n hx hb dX5_fewest_16 rfl (lv_at hl 1 rfl) ?_
    refine g_topi (y := nI (nC v0)) hv_6 ?_
    refine lv_iload_n hx hb dX5_fewest_17 rfl (lv_at hl 2 rfl) ?_
    refine g_topi (y := nI (nC v1)) hv_8 ?_
    refine z_calll [0, 1, 2, 3, 4, 5, 6, 7, 8, 9, 10, 11, 12, 13, 14, 15, 16, 17, 18, 19, 20, 21, 22, 23] (v := m_X5_guiltyBits fet fso fmi fpa fki fmo fsz frd fct (nC v0) (nC v1)) (fun _ ⟨_, _, _, _, _, _⟩ h => h) (va_runV (As := [.int (nI (nC v0)), .int (nI (nC v1))]) (rest := []) ⟨hx, hb, hml, hown, hts⟩ (c_X5_guiltyBits l G h0 tt rd nw th kp sh tu n1 n2 n3 n4 n5 n6 n7 n8 t1 t2 t3 t4 t5 t6 t7 t8 co en sk ct et jg pb lw tx him wr tj tb tl fc fe fet fso fmi fpa fki fmo fsz frd unm uso umi upa uki umo usz urd fct fsk (nC v0) (nC v1) H.size (by first | exact hj | assumption | omega) (by first | exact hp | assumption | omega) (by first | exact htn | assumption | omega) (by first | exact hc | assumption | omega) (by first | exact he | assumption | omega) (by first | exact hwx | assumption | omega) (by first | exact hjg | assumption | omega) (by first | exact hpb | assumption | omega)) (cwV 2 hts gX5_fewest_X5_guiltyBits rfl rfl rfl (by decide +kernel) ⟨Nat.le_of_ble_eq_true rfl, Nat.le_of_ble_eq_true rfl⟩) ⟨gPre_blind, va_recv (q := (RX5, TX5, 8)) hK hP (ci := 5) (q0 := 0) rfl rfl, fun U hU hW => gPre_of hU hW hK hP hD⟩ rfl rfl hl.1 rfl (lv_room (Nat.le_of_ble_eq_true rfl)) dX5_fewest_18 ⟨Nat.le_of_ble_eq_true rfl, Nat.le_of_ble_eq_true rfl⟩) hS hD hA rfl (fun u t H locs ht hvm hB hz1 hk1 hFq hAq hS => ?_)
    obtain ⟨yt1_14, yt2_15, yt3_16, yt4_17, yt7_18, ysk_19⟩ := u
    obtain ⟨hP1, hK1, hD1⟩ := hB
    have hz9 : gPD G A [zo5 h0 tt rd nw th kp sh tu him, zo0 nw tt n1 n2 n3 n4 n5 n6 n7 n8 (nI jg) (nI pb) (nI lw), zi G n2 4 fso, zi G n3 4 fmi, zi G n4 4 fpa, zi G n5 6 fki, zi G n6 6 fmo, zi G n7 6 fsz, zi G n8 6 frd, zo0 th tt t1 t2 t3 t4 t5 t6 t7 t8 (nI jg) (nI pb) (nI lw), zi G t1 6 yt1_14, zi G t2 4 yt2_15, zi G t3 4 yt3_16, zi G t4 4 yt4_17, zi G t5 6 fki, zi G t6 6 fmo, zi G t7 6 yt7_18, zi G t8 6 frd, zo3 tt co en sk wr (nI tx), zr G co 6 fc, zr G en 6 fe, zi G ct 160 fct, zi G et 3 (nF fet), zi G sk 32 ysk_19] H := zFill hP hD [0, 1, 2, 3, 4, 5, 6, 7, 8, 9, 10, 11, 12, 13, 14, 15, 16, 17, 18, 19, 20, 21, 22, 23] [1, 2, 3, 4, 5, 6, 7, 8, 9, 10, 11, 12, 13, 14, 15, 16, 17, 18, 19, 20, 21, 22, 23, 24] hAq hk1 hFq ht hP1 hD1 rfl (by decide +kernel)
    have hP := hz9.1
    have hD := hz9.2
    refine z_calli [] (v := m_X5_leastBit (m_X5_guiltyBits fet fso fmi fpa fki fmo fsz frd fct (nC v0) (nC v1))) (fun _ _ h => h) (va_runS (As := [.long (m_X5_guiltyBits fet fso fmi fpa fki fmo fsz frd fct (nC v0) (nC v1))]) (rest := []) ⟨hx, hb, hml, hown, hts⟩ (c_X5_leastBit l G (m_X5_guiltyBits fet fso fmi fpa fki fmo fsz frd fct (nC v0) (nC v1)) H.size) (va_cwS 1 hts gX5_fewest_X5_leastBit rfl rfl rfl (by decide +kernel) ⟨Nat.le_of_ble_eq_true rfl, Nat.le_of_ble_eq_true rfl⟩) ⟨gPre_blind, fun U hU hW => gPre_ofF [] hU hW hK hP hD (by decide +kernel) rfl⟩ rfl rfl hl.1 rfl (lv_room (Nat.le_of_ble_eq_true rfl)) dX5_fewest_21 ⟨Nat.le_of_ble_eq_true rfl, Nat.le_of_ble_eq_true rfl⟩) hS hD hA rfl (fun u t H locs ht hvm hB hz1 hk1 hFq hAq hS => ?_)
    obtain ⟨hP1, hK1, hD1⟩ := hB
    have hP := zKeep hP hD [] hAq hk1 ht hP1 rfl
    have q_22 : m_X5_fewest_th9 jg pb tj v0 v1 = nI jg := by unfold m_X5_fewest_th9; rw [if_pos p_4]
    have q_23 : m_X5_fewest_th10 jg pb tb v0 v1 = nI pb := by unfold m_X5_fewest_th10; rw [if_pos p_4]
    have q_24 : m_X5_fewest_th11 jg pb lw tl v0 v1 = nI lw := by unfold m_X5_fewest_th11; rw [if_pos p_4]
    have hz9 : gPD G A [zo5 h0 tt rd nw th kp sh tu him, zo0 nw tt n1 n2 n3 n4 n5 n6 n7 n8 (nI jg) (nI pb) (nI lw), zi G n2 4 fso, zi G n3 4 fmi, zi G n4 4 fpa, zi G n5 6 fki, zi G n6 6 fmo, zi G n7 6 fsz, zi G n8 6 frd, zo0 th tt t1 t2 t3 t4 t5 t6 t7 t8 (m_X5_fewest_th9 jg pb tj v0 v1) (m_X5_fewest_th10 jg pb tb v0 v1) (m_X5_fewest_th11 jg pb lw tl v0 v1), zi G t1 6 yt1_14, zi G t2 4 yt2_15, zi G t3 4 yt3_16, zi G t4 4 yt4_17, zi G t5 6 fki, zi G t6 6 fmo, zi G t7 6 yt7_18, zi G t8 6 frd, zo3 tt co en sk wr (nI tx), zr G co 6 fc, zr G en 6 fe, zi G ct 160 fct, zi G et 3 (nF fet), zi G sk 32 ysk_19] H := ⟨by rw [q_22, q_23, q_24]; exact hP, by rw [q_22, q_23, q_24]; exact hD⟩
    have hP9 := hz9.1
    have hD9 := hz9.2
    have hpost : (fun (r : Int32) (u : (Nat → Int32) × (Nat → Int32) × (Nat → Int32) × (Nat → Int32) × (Nat → Int32) × (Nat → Int32) × (Nat → Int32) × (Nat → Int32) × (Nat → Int32)) => match u with | (yt1, yt2, yt3, yt4, yt5, yt6, yt7, yt8, ysk) => r = m_X5_fewest jg pb fet fso fmi fpa fki fmo fsz frd fct v0 v1) (m_X5_leastBit (m_X5_guiltyBits fet fso fmi fpa fki fmo fsz frd fct (nC v0) (nC v1))) (yt1_14, yt2_15, yt3_16, yt4_17, fki, fmo, yt7_18, frd, ysk_19) := (show m_X5_fewest jg pb fet fso fmi fpa fki fmo fsz frd fct v0 v1 = (m_X5_leastBit (m_X5_guiltyBits fet fso fmi fpa fki fmo fsz frd fct (nC v0) (nC v1))) from by unfold m_X5_fewest; rw [if_pos p_4]).symm
    exact W.iret (v := (m_X5_leastBit (m_X5_guiltyBits fet fso fmi fpa fki fmo fsz frd fct (nC v0) (nC v1)))) hx hb hr (fun t ht hW => ⟨⟨(m_X5_leastBit (m_X5_guiltyBits fet fso fmi fpa fki fmo fsz frd fct (nC v0) (nC v1))), (yt1_14, yt2_15, yt3_16, yt4_17, fki, fmo, yt7_18, frd, ysk_19), rfl, hpost, by rw [ht]; exact hP9, va_K.moved hW.alike hK, hD9⟩, hS.F ht⟩) hS.2.2 dX5_fewest_24
  · skip
    have n_5 : (mBoth jg pb v0 v1) = false := bz_eq rfl c_3
    have n_5N : ¬ ((mBoth jg pb v0 v1) = true) := by rw [n_5]; decide
    refine lv_bipush (v := -5) hx hb dX5_fewest_12 (by decide +kernel) ?_
    have q_25 : m_X5_fewest_th9 jg pb tj v0 v1 = tj := by unfold m_X5_fewest_th9; rw [if_neg n_5N]
    have q_26 : m_X5_fewest_th10 jg pb tb v0 v1 = tb := by unfold m_X5_fewest_th10; rw [if_neg n_5N]
    have q_27 : m_X5_fewest_th11 jg pb lw tl v0 v1 = tl := by unfold m_X5_fewest_th11; rw [if_neg n_5N]
    have hz9 : gPD G A [zo5 h0 tt rd nw th kp sh tu him, zo0 nw tt n1 n2 n3 n4 n5 n6 n7 n8 (nI jg) (nI pb) (nI lw), zi G n2 4 fso, zi G n3 4 fmi, zi G n4 4 fpa, zi G n5 6 fki, zi G n6 6 fmo, zi G n7 6 fsz, zi G n8 6 frd, zo0 th tt t1 t2 t3 t4 t5 t6 t7 t8 (m_X5_fewest_th9 jg pb tj v0 v1) (m_X5_fewest_th10 jg pb tb v0 v1) (m_X5_fewest_th11 jg pb lw tl v0 v1), zi G t1 6 unm, zi G t2 4 uso, zi G t3 4 umi, zi G t4 4 upa, zi G t5 6 uki, zi G t6 6 umo, zi G t7 6 usz, zi G t8 6 urd, zo3 tt co en sk wr (nI tx), zr G co 6 fc, zr G en 6 fe, zi G ct 160 fct, zi G et 3 (nF fet), zi G sk 32 fsk] H := ⟨by rw [q_25, q_26, q_27]; exact hP, by rw [q_25, q_26, q_27]; exact hD⟩
    have hP9 := hz9.1
    have hD9 := hz9.2
    have hpost : (fun (r : Int32) (u : (Nat → Int32) × (Nat → Int32) × (Nat → Int32) × (Nat → Int32) × (Nat → Int32) × (Nat → Int32) × (Nat → Int32) × (Nat → Int32) × (Nat → Int32)) => match u with | (yt1, yt2, yt3, yt4, yt5, yt6, yt7, yt8, ysk) => r = m_X5_fewest jg pb fet fso fmi fpa fki fmo fsz frd fct v0 v1) (-5) (unm, uso, umi, upa, uki, umo, usz, urd, fsk) := (show m_X5_fewest jg pb fet fso fmi fpa fki fmo fsz frd fct v0 v1 = (-5) from by unfold m_X5_fewest; rw [if_neg n_5N]).symm
    exact W.iret (v := (-5)) hx hb hr (fun t ht hW => ⟨⟨(-5), (unm, uso, umi, upa, uki, umo, usz, urd, fsk), rfl, hpost, by rw [ht]; exact hP9, va_K.moved hW.alike hK, hD9⟩, hS.F ht⟩) hS.2.2 dX5_fewest_14
noncomputable def p_X5_sand_21 (fet : Nat → Nat) (fki : Nat → Int32) (fmo : Nat → Int32) (frd : Nat → Int32) (fct : Nat → Int32) (v0 : Int32) (v1 : Int32) : Nat → Nat → (Nat → Int32) → (Nat → Int32) → (Nat → Int32) → (Nat → Int32) → Nat × (Nat → Int32) × (Nat → Int32) × (Nat → Int32) × (Nat → Int32)
  | 0, n21, y21t2, y21t3, y21t4, y21t7 => (n21, y21t2, y21t3, y21t4, y21t7)
  | q9 + 1, n21, y21t2, y21t3, y21t4, y21t7 => if (m_X0_isSand (nC v1) fki fmo y21t7) = 0 then p_X5_sand_21 fet fki fmo frd fct v0 v1 q9 (n21 + 1) (m_X0_mile_n2 (nC v0) y21t2 y21t3) (upd y21t3 (nC v0) ((y21t3 (nC v0)) + 1)) (m_X0_mile_n4 (nC v0) (nC v1) y21t2 y21t3 y21t4 fki fmo y21t7 frd fct fet) (m_X0_mile_n7 (nC v0) (nC v1) y21t2 y21t3 fki fmo y21t7 frd fct fet 0) else (n21, y21t2, y21t3, y21t4, y21t7)
noncomputable def g_X5_sand_21 (fet : Nat → Nat) (fso : Nat → Int32) (fmi : Nat → Int32) (fpa : Nat → Int32) (fki : Nat → Int32) (fmo : Nat → Int32) (fsz : Nat → Int32) (frd : Nat → Int32) (fct : Nat → Int32) (v0 : Int32) (v1 : Int32) : Nat × (Nat → Int32) × (Nat → Int32) × (Nat → Int32) × (Nat → Int32) := p_X5_sand_21 fet fki fmo frd fct v0 v1 (61 - 0) 0 fso fmi fpa fsz
noncomputable def m_X5_sand (jg : Nat) (pb : Nat) (fet : Nat → Nat) (fso : Nat → Int32) (fmi : Nat → Int32) (fpa : Nat → Int32) (fki : Nat → Int32) (fmo : Nat → Int32) (fsz : Nat → Int32) (frd : Nat → Int32) (fct : Nat → Int32) (v0 : Int32) (v1 : Int32) : Int32 := if (mBoth jg pb v0 v1) = true then (if 60 < (nI ((g_X5_sand_21 fet fso fmi fpa fki fmo fsz frd fct v0 v1).1)) then -1 else nI ((g_X5_sand_21 fet fso fmi fpa fki fmo fsz frd fct v0 v1).1)) else -5
noncomputable def m_X5_sand_th9 (jg : Nat) (pb : Nat) (tj : Int32) (v0 : Int32) (v1 : Int32) : Int32 := if (mBoth jg pb v0 v1) = true then nI jg else tj
noncomputable def m_X5_sand_th10 (jg : Nat) (pb : Nat) (tb : Int32) (v0 : Int32) (v1 : Int32) : Int32 := if (mBoth jg pb v0 v1) = true then nI pb else tb
noncomputable def m_X5_sand_th11 (jg : Nat) (pb : Nat) (lw : Nat) (tl : Int32) (v0 : Int32) (v1 : Int32) : Int32 := if (mBoth jg pb v0 v1) = true then nI lw else tl
abbrev q_X5_sand (G : gG) (h0 tt rd nw th kp sh tu n1 n2 n3 n4 n5 n6 n7 n8 t1 t2 t3 t4 t5 t6 t7 t8 co en sk ct et : Nat) (jg : Nat) (pb : Nat) (lw : Nat) (tx : Nat) (him : Int32) (wr : Int32) (tj : Int32) (tb : Int32) (tl : Int32) (fc : Nat → Option Nat) (fe : Nat → Option Nat) (fet : Nat → Nat) (fso : Nat → Int32) (fmi : Nat → Int32) (fpa : Nat → Int32) (fki : Nat → Int32) (fmo : Nat → Int32) (fsz : Nat → Int32) (frd : Nat → Int32) (unm : Nat → Int32) (uso : Nat → Int32) (umi : Nat → Int32) (upa : Nat → Int32) (uki : Nat → Int32) (umo : Nat → Int32) (usz : Nat → Int32) (urd : Nat → Int32) (fct : Nat → Int32) (fsk : Nat → Int32) (v0 : Int32) (v1 : Int32) (A : Nat → Prop) : Array Value → State → Outcome → State → Prop := va_Qi (fun (r : Int32) (u : (Nat → Int32) × (Nat → Int32) × (Nat → Int32) × (Nat → Int32) × (Nat → Int32) × (Nat → Int32) × (Nat → Int32) × (Nat → Int32) × (Nat → Int32)) => match u with | (yt1, yt2, yt3, yt4, yt5, yt6, yt7, yt8, ysk) => r = m_X5_sand jg pb fet fso fmi fpa fki fmo fsz frd fct v0 v1) (fun (u : (Nat → Int32) × (Nat → Int32) × (Nat → Int32) × (Nat → Int32) × (Nat → Int32) × (Nat → Int32) × (Nat → Int32) × (Nat → Int32) × (Nat → Int32)) t => match u with | (yt1, yt2, yt3, yt4, yt5, yt6, yt7, yt8, ysk) => va_P G.1 vwCl [zo5 h0 tt rd nw th kp sh tu him, zo0 nw tt n1 n2 n3 n4 n5 n6 n7 n8 (nI jg) (nI pb) (nI lw), zi G n2 4 fso, zi G n3 4 fmi, zi G n4 4 fpa, zi G n5 6 fki, zi G n6 6 fmo, zi G n7 6 fsz, zi G n8 6 frd, zo0 th tt t1 t2 t3 t4 t5 t6 t7 t8 (m_X5_sand_th9 jg pb tj v0 v1) (m_X5_sand_th10 jg pb tb v0 v1) (m_X5_sand_th11 jg pb lw tl v0 v1), zi G t1 6 yt1, zi G t2 4 yt2, zi G t3 4 yt3, zi G t4 4 yt4, zi G t5 6 yt5, zi G t6 6 yt6, zi G t7 6 yt7, zi G t8 6 yt8, zo3 tt co en sk wr (nI tx), zr G co 6 fc, zr G en 6 fe, zi G ct 160 fct, zi G et 3 (nF fet), zi G sk 32 ysk] t.heap ∧ gK G t ∧ va_D A [zo5 h0 tt rd nw th kp sh tu him, zo0 nw tt n1 n2 n3 n4 n5 n6 n7 n8 (nI jg) (nI pb) (nI lw), zi G n2 4 fso, zi G n3 4 fmi, zi G n4 4 fpa, zi G n5 6 fki, zi G n6 6 fmo, zi G n7 6 fsz, zi G n8 6 frd, zo0 th tt t1 t2 t3 t4 t5 t6 t7 t8 (m_X5_sand_th9 jg pb tj v0 v1) (m_X5_sand_th10 jg pb tb v0 v1) (m_X5_sand_th11 jg pb lw tl v0 v1), zi G t1 6 yt1, zi G t2 4 yt2, zi G t3 4 yt3, zi G t4 4 yt4, zi G t5 6 yt5, zi G t6 6 yt6, zi G t7 6 yt7, zi G t8 6 yt8, zo3 tt co en sk wr (nI tx), zr G co 6 fc, zr G en 6 fe, zi G ct 160 fct, zi G et 3 (nF fet), zi G sk 32 ysk]) A
set_option maxHeartbeats 4000000 in
set_option maxRecDepth 100000 in
theorem c_X5_sand (l : Launch) (G : gG) (h0 tt rd nw th kp sh tu n1 n2 n3 n4 n5 n6 n7 n8 t1 t2 t3 t4 t5 t6 t7 t8 co en sk ct et : Nat) (jg : Nat) (pb : Nat) (lw : Nat) (tx : Nat) (him : Int32) (wr : Int32) (tj : Int32) (tb : Int32) (tl : Int32) (fc : Nat → Option Nat) (fe : Nat → Option Nat) (fet : Nat → Nat) (fso : Nat → Int32) (fmi : Nat → Int32) (fpa : Nat → Int32) (fki : Nat → Int32) (fmo : Nat → Int32) (fsz : Nat → Int32) (frd : Nat → Int32) (unm : Nat → Int32) (uso : Nat → Int32) (umi : Nat → Int32) (upa : Nat → Int32) (uki : Nat → Int32) (umo : Nat → Int32) (usz : Nat → Int32) (urd : Nat → Int32) (fct : Nat → Int32) (fsk : Nat → Int32) (v0 : Int32) (v1 : Int32) (sz : Nat) (htn : lw < tx ∧ tx ≤ 6) (hc : fc lw = some ct) (he : fe lw = some et) (hwx : mWx fct fet) (hjg : jg ≤ 4) (hpb : pb ≤ 6) : Met l yX5_sand wsX5_sand ({ frames := 4, cells := 0, slots := 0, locals := 441 }) (gPre G [.ref h0, .int v0, .int v1] [zo5 h0 tt rd nw th kp sh tu him, zo0 nw tt n1 n2 n3 n4 n5 n6 n7 n8 (nI jg) (nI pb) (nI lw), zi G n2 4 fso, zi G n3 4 fmi, zi G n4 4 fpa, zi G n5 6 fki, zi G n6 6 fmo, zi G n7 6 fsz, zi G n8 6 frd, zo0 th tt t1 t2 t3 t4 t5 t6 t7 t8 tj tb tl, zi G t1 6 unm, zi G t2 4 uso, zi G t3 4 umi, zi G t4 4 upa, zi G t5 6 uki, zi G t6 6 umo, zi G t7 6 usz, zi G t8 6 urd, zo3 tt co en sk wr (nI tx), zr G co 6 fc, zr G en 6 fe, zi G ct 160 fct, zi G et 3 (nF fet), zi G sk 32 fsk] sz) (q_X5_sand G h0 tt rd nw th kp sh tu n1 n2 n3 n4 n5 n6 n7 n8 t1 t2 t3 t4 t5 t6 t7 t8 co en sk ct et jg pb lw tx him wr tj tb tl fc fe fet fso fmi fpa fki fmo fsz frd unm uso umi upa uki umo usz urd fct fsk v0 v1 (va_A [zo5 h0 tt rd nw th kp sh tu him, zo0 nw tt n1 n2 n3 n4 n5 n6 n7 n8 (nI jg) (nI pb) (nI lw), zi G n2 4 fso, zi G n3 4 fmi, zi G n4 4 fpa, zi G n5 6 fki, zi G n6 6 fmo, zi G n7 6 fsz, zi G n8 6 frd, zo0 th tt t1 t2 t3 t4 t5 t6 t7 t8 tj tb tl, zi G t1 6 unm, zi G t2 4 uso, zi G t3 4 umi, zi G t4 4 upa, zi G t5 6 uki, zi G t6 6 umo, zi G t7 6 usz, zi G t8 6 urd, zo3 tt co en sk wr (nI tx), zr G co 6 fc, zr G en 6 fe, zi G ct 160 fct, zi G et 3 (nF fet), zi G sk 32 fsk] sz)) 0 0 (va_A [zo5 h0 tt rd nw th kp sh tu him, zo0 nw tt n1 n2 n3 n4 n5 n6 n7 n8 (nI jg) (nI pb) (nI lw), zi G n2 4 fso, zi G n3 4 fmi, zi G n4 4 fpa, zi G n5 6 fki, zi G n6 6 fmo, zi G n7 6 fsz, zi G n8 6 frd, zo0 th tt t1 t2 t3 t4 t5 t6 t7 t8 tj tb tl, zi G t1 6 unm, zi G t2 4 uso, zi G t3 4 umi, zi G t4 4 upa, zi G t5 6 uki, zi G t6 6 umo, zi G t7 6 usz, zi G t8 6 urd, zo3 tt co en sk wr (nI tx), zr G co 6 fc, zr G en 6 fe, zi G ct 160 fct, zi G et 3 (nF fet), zi G sk 32 fsk] sz) := by
  refine Met.ofW (cc := cX5_sand) (maxL := 4) (ret := (some .int)) (by decide +kernel) rfl ?_
  intro p e s m args below meth c s₁ B hml hv
  obtain ⟨rfl, hsz, hP, hK, hD0⟩ := hv
  have hx := B.exec
  have hb := B.bytes
  have hr := B.returns
  have hts := atoms_spec (ws := wsX5_sand) B.pre
  have hown : s.vm.findClass RX5 = some m.cls := findClass_of_methodNamed B.named
  have hlocks := B.notSynchronized
  subst hsz
  have hD := hD0.self (sz := s.heap.size)
  generalize hAe : va_A [zo5 h0 tt rd nw th kp sh tu him, zo0 nw tt n1 n2 n3 n4 n5 n6 n7 n8 (nI jg) (nI pb) (nI lw), zi G n2 4 fso, zi G n3 4 fmi, zi G n4 4 fpa, zi G n5 6 fki, zi G n6 6 fmo, zi G n7 6 fsz, zi G n8 6 frd, zo0 th tt t1 t2 t3 t4 t5 t6 t7 t8 tj tb tl, zi G t1 6 unm, zi G t2 4 uso, zi G t3 4 umi, zi G t4 4 upa, zi G t5 6 uki, zi G t6 6 umo, zi G t7 6 usz, zi G t8 6 urd, zo3 tt co en sk wr (nI tx), zr G co 6 fc, zr G en 6 fe, zi G ct 160 fct, zi G et 3 (nF fet), zi G sk 32 fsk] s.heap.size = A at hD ⊢
  have hA : ∀ q : Nat, s.heap.size ≤ q → A q := fun q h => by rw [← hAe]; exact Or.inr h
  have hS : va_S A s.heap s.heap [] := va_S.rf
  have hz9 : gPD G A [zo5 h0 tt rd nw th kp sh tu him, zo0 nw tt n1 n2 n3 n4 n5 n6 n7 n8 (nI jg) (nI pb) (nI lw), zi G n2 4 fso, zi G n3 4 fmi, zi G n4 4 fpa, zi G n5 6 fki, zi G n6 6 fmo, zi G n7 6 fsz, zi G n8 6 frd, zo0 th tt t1 t2 t3 t4 t5 t6 t7 t8 tj tb tl, zi G t1 6 unm, zi G t2 4 uso, zi G t3 4 umi, zi G t4 4 upa, zi G t5 6 uki, zi G t6 6 umo, zi G t7 6 usz, zi G t8 6 urd, zo3 tt co en sk wr (nI tx), zr G co 6 fc, zr G en 6 fe, zi G ct 160 fct, zi G et 3 (nF fet), zi G sk 32 fsk] s.heap := ⟨hP, hD⟩
  have hP := hz9.1
  have hD := hz9.2
  have hl := lv_entry ([.ref h0, .int v0, .int v1]) (n := 4) (Nat.le_of_ble_eq_true rfl)
  rw [lg_entry_eq]
  generalize (lg_sl ([.ref h0, .int v0, .int v1]) ++ List.replicate (4 - (lg_sl ([.ref h0, .int v0, .int v1])).length) Slot.unset).toArray = ls at hl ⊢
  have hl : lv_has ls 4 [zR 0 h0, zI 1 v0, zI 2 v1] := hl
  have kf28 := hts (.fieldLink RX5 28 "PebbleInShoe" "now" "LPebbleInShoe$Court;") (by decide +kernel)
  have hiX5 := (by decide +kernel : ∀ w ∈ wsX50, w ∈ wsX5_sand)
  have kf32 := hts (.fieldLink RX5 32 "PebbleInShoe" "thought" "LPebbleInShoe$Court;") (by decide +kernel)
  refine g_aget (D := G.1) (ci := 5) (v := .ref nw) (C := RX5) (T := TX5) (N := 8) hx hb dX5_sand_0 rfl (lv_at hl 0 rfl) hts hiX5 hown hK hP 0 rfl rfl 2 (by decide +kernel) kf28 (fun _ h9 => h9) rfl dX5_sand_1 ?_
  refine lv_iload_n hx hb dX5_sand_4 rfl (lv_at hl 1 rfl) ?_
  refine lv_iload_n hx hb dX5_sand_5 rfl (lv_at hl 2 rfl) ?_
  refine z_calli [1] (v := bz (mBoth jg pb v0 v1)) (fun _ _ h => h) (va_runV (As := [.int v0, .int v1]) (rest := []) ⟨hx, hb, hml, hown, hts⟩ (c_X0_hasBoth_g l G nw tt n1 n2 n3 n4 n5 n6 n7 n8 jg pb lw v0 v1 s.heap.size (by first | exact hjg | assumption | omega) (by first | exact hpb | assumption | omega)) (cwV 2 hts gX5_sand_X0_hasBoth rfl rfl rfl (by decide +kernel) ⟨Nat.le_of_ble_eq_true rfl, Nat.le_of_ble_eq_true rfl⟩) ⟨gPre_blind, va_recv (q := (RX0, TX0, 12)) hK hP (ci := 0) (q0 := 1) rfl rfl, fun U hU hW => gPre_ofF [1] hU hW hK hP hD (by decide +kernel) rfl⟩ rfl rfl hl.1 rfl (lv_room (Nat.le_of_ble_eq_true rfl)) dX5_sand_6 ⟨Nat.le_of_ble_eq_true rfl, Nat.le_of_ble_eq_true rfl⟩) hS hD hA rfl (fun u t H locs ht hvm hB hz1 hk1 hFq hAq hS => ?_)
  obtain ⟨hP1, hK1, hD1⟩ := hB
  have hP := zKeep hP hD [1] hAq hk1 ht hP1 rfl
  refine lv_if_ne (tgt := 15) hx hb dX5_sand_9 (by decide +kernel) (fun c_3 => ?_) (fun c_3 => ?_)
  · skip
    have p_4 : (mBoth jg pb v0 v1) = true := bz_ne rfl c_3
    have hv_6 : v0 = nI (nC v0) := mHas_eq (mBoth_1 p_4)
    have hk_7 : nC v0 < jg := mHas_lt (by omega) (mBoth_1 p_4)
    have hv_8 : v1 = nI (nC v1) := mHas_eq (mBoth_2 p_4)
    have hk_9 : nC v1 < pb := mHas_lt (by omega) (mBoth_2 p_4)
    refine lv_aload_n hx hb dX5_sand_15 rfl (lv_at hl 0 rfl) ?_
    refine z_callv [0, 1, 2, 3, 4, 5, 6, 7, 8, 9, 11, 12, 13, 14, 15, 16, 17] (va_runV (As := []) (rest := []) ⟨hx, hb, hml, hown, hts⟩ (c_X5_think l G h0 tt rd nw th kp sh tu n1 n2 n3 n4 n5 n6 n7 n8 t1 t2 t3 t4 t5 t6 t7 t8 jg pb lw him tj tb tl fso fmi fpa fki fmo fsz frd uso umi upa uki umo usz urd H.size (by first | exact hjg | assumption | omega) (by first | exact hpb | assumption | omega)) (cwV 0 hts gX5_sand_X5_think rfl rfl rfl (by decide +kernel) ⟨Nat.le_of_ble_eq_true rfl, Nat.le_of_ble_eq_true rfl⟩) ⟨gPre_blind, va_recv (q := (RX5, TX5, 8)) hK hP (ci := 5) (q0 := 0) rfl rfl, fun U hU hW => gPre_ofF [0, 1, 2, 3, 4, 5, 6, 7, 8, 9, 11, 12, 13, 14, 15, 16, 17] hU hW hK hP hD (by decide +kernel) rfl⟩ rfl rfl hl.1 rfl (lv_room (Nat.le_of_ble_eq_true rfl)) dX5_sand_16 ⟨Nat.le_of_ble_eq_true rfl, Nat.le_of_ble_eq_true rfl⟩) hS hD hA rfl (fun u t H locs ht hvm w_11 hB hz1 hk1 hFq hAq hS => ?_)
    obtain ⟨hP1, hK1, hD1⟩ := hB
    have hz9 : gPD G A [zo5 h0 tt rd nw th kp sh tu him, zo0 nw tt n1 n2 n3 n4 n5 n6 n7 n8 (nI jg) (nI pb) (nI lw), zi G n2 4 fso, zi G n3 4 fmi, zi G n4 4 fpa, zi G n5 6 fki, zi G n6 6 fmo, zi G n7 6 fsz, zi G n8 6 frd, zo0 th tt t1 t2 t3 t4 t5 t6 t7 t8 (nI jg) (nI pb) (nI lw), zi G t1 6 unm, zi G t2 4 fso, zi G t3 4 fmi, zi G t4 4 fpa, zi G t5 6 fki, zi G t6 6 fmo, zi G t7 6 fsz, zi G t8 6 frd, zo3 tt co en sk wr (nI tx), zr G co 6 fc, zr G en 6 fe, zi G ct 160 fct, zi G et 3 (nF fet), zi G sk 32 fsk] H := zFill hP hD [0, 1, 2, 3, 4, 5, 6, 7, 8, 9, 11, 12, 13, 14, 15, 16, 17] [1, 2, 3, 4, 5, 6, 7, 8, 9, 10, 0, 11, 12, 13, 14, 15, 16, 17] hAq hk1 hFq ht hP1 hD1 rfl (by decide +kernel)
    have hP := hz9.1
    have hD := hz9.2
    refine lv_iconst (v := 0) hx hb dX5_sand_19 (by decide +kernel) ?_
    refine lv_istore_n (lv' := [zI 3 0, zR 0 h0, zI 1 v0, zI 2 v1]) hx hb dX5_sand_20 rfl hl (by decide +kernel) rfl (fun ls hl => ?_)
    have loop_21 : ∀ (n9 : Nat) (n21 : Nat) (y21t2 : Nat → Int32) (y21t3 : Nat → Int32) (y21t4 : Nat → Int32) (y21t7 : Nat → Int32) (x21t1 : Nat → Int32) (x21sk : Nat → Int32), (n21 ≤ 61) → (p_X5_sand_21 fet fki fmo frd fct v0 v1 (61 - n21) n21 y21t2 y21t3 y21t4 y21t7 = (g_X5_sand_21 fet fso fmi fpa fki fmo fsz frd fct v0 v1)) → (61 - n21) < n9 → ∀ (H : Heap) (locs : List Loc), va_P G.1 vwCl [zo5 h0 tt rd nw th kp sh tu him, zo0 nw tt n1 n2 n3 n4 n5 n6 n7 n8 (nI jg) (nI pb) (nI lw), zi G n2 4 fso, zi G n3 4 fmi, zi G n4 4 fpa, zi G n5 6 fki, zi G n6 6 fmo, zi G n7 6 fsz, zi G n8 6 frd, zo0 th tt t1 t2 t3 t4 t5 t6 t7 t8 (nI jg) (nI pb) (nI lw), zi G t1 6 x21t1, zi G t2 4 y21t2, zi G t3 4 y21t3, zi G t4 4 y21t4, zi G t5 6 fki, zi G t6 6 fmo, zi G t7 6 y21t7, zi G t8 6 frd, zo3 tt co en sk wr (nI tx), zr G co 6 fc, zr G en 6 fe, zi G ct 160 fct, zi G et 3 (nF fet), zi G sk 32 x21sk] H → va_D A [zo5 h0 tt rd nw th kp sh tu him, zo0 nw tt n1 n2 n3 n4 n5 n6 n7 n8 (nI jg) (nI pb) (nI lw), zi G n2 4 fso, zi G n3 4 fmi, zi G n4 4 fpa, zi G n5 6 fki, zi G n6 6 fmo, zi G n7 6 fsz, zi G n8 6 frd, zo0 th tt t1 t2 t3 t4 t5 t6 t7 t8 (nI jg) (nI pb) (nI lw), zi G t1 6 x21t1, zi G t2 4 y21t2, zi G t3 4 y21t3, zi G t4 4 y21t4, zi G t5 6 fki, zi G t6 6 fmo, zi G t7 6 y21t7, zi G t8 6 frd, zo3 tt co en sk wr (nI tx), zr G co 6 fc, zr G en 6 fe, zi G ct 160 fct, zi G et 3 (nF fet), zi G sk 32 x21sk] → va_S A s.heap H locs → ∀ ls : Array Slot, lv_has ls 4 [zI 3 (nI n21), zR 0 h0, zI 1 v0, zI 2 v1] → W p l e (headSpec wsX5_sand ({ frames := 4, cells := 0, slots := 0, locals := 441 })).room s m ([.ref h0, .int v0, .int v1] : List Value).toArray below meth c H locs 0 0 (MQ below (q_X5_sand G h0 tt rd nw th kp sh tu n1 n2 n3 n4 n5 n6 n7 n8 t1 t2 t3 t4 t5 t6 t7 t8 co en sk ct et jg pb lw tx him wr tj tb tl fc fe fet fso fmi fpa fki fmo fsz frd unm uso umi upa uki umo usz urd fct fsk v0 v1 A) ([.ref h0, .int v0, .int v1] : List Value).toArray s 0 0 A) (F0 m 21 ls []) := by
      intro n9
      induction n9 with
      | zero => intro n21 y21t2 y21t3 y21t4 y21t7 x21t1 x21sk hn21 R21 hm9_21; exact absurd hm9_21 (Nat.not_lt_zero _)
      | succ n9 ih9_21 =>
        intro n21 y21t2 y21t3 y21t4 y21t7 x21t1 x21sk hn21 R21 hm9_21 H locs hP hD hS ls hl
        refine lv_iload_n hx hb dX5_sand_21 rfl (lv_at hl 0 rfl) ?_
        refine lv_bipush (v := 60) hx hb dX5_sand_22 (by decide +kernel) ?_
        refine lv_icmp_gt (tgt := 57) hx hb dX5_sand_24 (by decide +kernel) (fun c_12 => ?_) (fun c_12 => ?_)
        · skip
          have c_12N : 60 < n21 := nI_lt1 (a := 60) (b := n21) (by omega) (by omega) c_12
          have hF21 : (g_X5_sand_21 fet fso fmi fpa fki fmo fsz frd fct v0 v1) = (n21, y21t2, y21t3, y21t4, y21t7) := by rw [← R21, show 61 - n21 = 0 by omega]; rfl
          have hE21_0 : n21 = ((g_X5_sand_21 fet fso fmi fpa fki fmo fsz frd fct v0 v1).1) := by rw [hF21]
          have hE21_1 : y21t2 = ((g_X5_sand_21 fet fso fmi fpa fki fmo fsz frd fct v0 v1).2.1) := by rw [hF21]
          have hE21_2 : y21t3 = ((g_X5_sand_21 fet fso fmi fpa fki fmo fsz frd fct v0 v1).2.2.1) := by rw [hF21]
          have hE21_3 : y21t4 = ((g_X5_sand_21 fet fso fmi fpa fki fmo fsz frd fct v0 v1).2.2.2.1) := by rw [hF21]
          have hE21_4 : y21t7 = ((g_X5_sand_21 fet fso fmi fpa fki fmo fsz frd fct v0 v1).2.2.2.2) := by rw [hF21]
          clear hF21 R21
          subst hE21_0
          subst hE21_1
          subst hE21_2
          subst hE21_3
          subst hE21_4
          refine lv_iconst (v := -1) hx hb dX5_sand_57 (by decide +kernel) ?_
          have q_13 : m_X5_sand_th9 jg pb tj v0 v1 = nI jg := by unfold m_X5_sand_th9; rw [if_pos p_4]
          have q_14 : m_X5_sand_th10 jg pb tb v0 v1 = nI pb := by unfold m_X5_sand_th10; rw [if_pos p_4]
          have q_15 : m_X5_sand_th11 jg pb lw tl v0 v1 = nI lw := by unfold m_X5_sand_th11; rw [if_pos p_4]
          have hz9 : gPD G A [zo5 h0 tt rd nw th kp sh tu him, zo0 nw tt n1 n2 n3 n4 n5 n6 n7 n8 (nI jg) (nI pb) (nI lw), zi G n2 4 fso, zi G n3 4 fmi, zi G n4 4 fpa, zi G n5 6 fki, zi G n6 6 fmo, zi G n7 6 fsz, zi G n8 6 frd, zo0 th tt t1 t2 t3 t4 t5 t6 t7 t8 (m_X5_sand_th9 jg pb tj v0 v1) (m_X5_sand_th10 jg pb tb v0 v1) (m_X5_sand_th11 jg pb lw tl v0 v1), zi G t1 6 x21t1, zi G t2 4 ((g_X5_sand_21 fet fso fmi fpa fki fmo fsz frd fct v0 v1).2.1), zi G t3 4 ((g_X5_sand_21 fet fso fmi fpa fki fmo fsz frd fct v0 v1).2.2.1), zi G t4 4 ((g_X5_sand_21 fet fso fmi fpa fki fmo fsz frd fct v0 v1).2.2.2.1), zi G t5 6 fki, zi G t6 6 fmo, zi G t7 6 ((g_X5_sand_21 fet fso fmi fpa fki fmo fsz frd fct v0 v1).2.2.2.2), zi G t8 6 frd, zo3 tt co en sk wr (nI tx), zr G co 6 fc, zr G en 6 fe, zi G ct 160 fct, zi G et 3 (nF fet), zi G sk 32 x21sk] H := ⟨by rw [q_13, q_14, q_15]; exact hP, by rw [q_13, q_14, q_15]; exact hD⟩
          have hP9 := hz9.1
          have hD9 := hz9.2
          have hpost : (fun (r : Int32) (u : (Nat → Int32) × (Nat → Int32) × (Nat → Int32) × (Nat → Int32) × (Nat → Int32) × (Nat → Int32) × (Nat → Int32) × (Nat → Int32) × (Nat → Int32)) => match u with | (yt1, yt2, yt3, yt4, yt5, yt6, yt7, yt8, ysk) => r = m_X5_sand jg pb fet fso fmi fpa fki fmo fsz frd fct v0 v1) (-1) (x21t1, ((g_X5_sand_21 fet fso fmi fpa fki fmo fsz frd fct v0 v1).2.1), ((g_X5_sand_21 fet fso fmi fpa fki fmo fsz frd fct v0 v1).2.2.1), ((g_X5_sand_21 fet fso fmi fpa fki fmo fsz frd fct v0 v1).2.2.2.1), fki, fmo, ((g_X5_sand_21 fet fso fmi fpa fki fmo fsz frd fct v0 v1).2.2.2.2), frd, x21sk) := (show m_X5_sand jg pb fet fso fmi fpa fki fmo fsz frd fct v0 v1 = (-1) from by unfold m_X5_sand; rw [if_pos p_4, if_pos c_12]).symm
          exact W.iret (v := (-1)) hx hb hr (fun t ht hW => ⟨⟨(-1), (x21t1, ((g_X5_sand_21 fet fso fmi fpa fki fmo fsz frd fct v0 v1).2.1), ((g_X5_sand_21 fet fso fmi fpa fki fmo fsz frd fct v0 v1).2.2.1), ((g_X5_sand_21 fet fso fmi fpa fki fmo fsz frd fct v0 v1).2.2.2.1), fki, fmo, ((g_X5_sand_21 fet fso fmi fpa fki fmo fsz frd fct v0 v1).2.2.2.2), frd, x21sk), rfl, hpost, by rw [ht]; exact hP9, va_K.moved hW.alike hK, hD9⟩, hS.F ht⟩) hS.2.2 dX5_sand_58
        · skip
          have c_12N : n21 ≤ 60 := nI_lt0 (a := 60) (b := n21) (by omega) (by omega) c_12
          refine g_aget (D := G.1) (ci := 5) (v := .ref th) (C := RX5) (T := TX5) (N := 8) hx hb dX5_sand_27 rfl (lv_at hl 1 rfl) hts hiX5 hown hK hP 0 rfl rfl 3 (by decide +kernel) kf32 (fun _ h9 => h9) rfl dX5_sand_28 ?_
          refine lv_iload_n hx hb dX5_sand_31 rfl (lv_at hl 3 rfl) ?_
          refine g_topi (y := nI (nC v1)) hv_8 ?_
          refine z_calli [9, 14, 15, 16] (v := m_X0_isSand (nC v1) fki fmo y21t7) (fun _ _ h => h) (va_runV (As := [.int (nI (nC v1))]) (rest := []) ⟨hx, hb, hml, hown, hts⟩ (c_X0_isSand l G th tt t1 t2 t3 t4 t5 t6 t7 t8 lw (nC v1) (nI jg) (nI pb) fki fmo y21t7 H.size (by first | exact hp | assumption | omega)) (cwV 1 hts gX5_sand_X0_isSand rfl rfl rfl (by decide +kernel) ⟨Nat.le_of_ble_eq_true rfl, Nat.le_of_ble_eq_true rfl⟩) ⟨gPre_blind, va_recv (q := (RX0, TX0, 12)) hK hP (ci := 0) (q0 := 9) rfl rfl, fun U hU hW => gPre_ofF [9, 14, 15, 16] hU hW hK hP hD (by decide +kernel) rfl⟩ rfl rfl hl.1 rfl (lv_room (Nat.le_of_ble_eq_true rfl)) dX5_sand_32 ⟨Nat.le_of_ble_eq_true rfl, Nat.le_of_ble_eq_true rfl⟩) hS hD hA rfl (fun u t H locs ht hvm hB hz1 hk1 hFq hAq hS => ?_)
          obtain ⟨hP1, hK1, hD1⟩ := hB
          have hP := zKeep hP hD [9, 14, 15, 16] hAq hk1 ht hP1 rfl
          refine lv_if_eq (tgt := 40) hx hb dX5_sand_35 (by decide +kernel) (fun c_19 => ?_) (fun c_19 => ?_)
          · skip
            refine g_aget (D := G.1) (ci := 5) (v := .ref th) (C := RX5) (T := TX5) (N := 8) hx hb dX5_sand_40 rfl (lv_at hl 1 rfl) hts hiX5 hown hK hP 0 rfl rfl 3 (by decide +kernel) kf32 (fun _ h9 => h9) rfl dX5_sand_41 ?_
            refine lv_iload_n hx hb dX5_sand_44 rfl (lv_at hl 2 rfl) ?_
            refine g_topi (y := nI (nC v0)) hv_6 ?_
            refine lv_iload_n hx hb dX5_sand_45 rfl (lv_at hl 3 rfl) ?_
            refine g_topi (y := nI (nC v1)) hv_8 ?_
            refine lv_iconst (v := 0) hx hb dX5_sand_46 (by decide +kernel) ?_
            refine z_calli [9, 10, 11, 12, 13, 14, 15, 16, 17, 18, 19, 20, 21, 22, 23] (v := m_X0_mile (nC v0) (nC v1) y21t2 y21t3 fki fmo y21t7 frd fct fet) (fun _ ⟨_, _⟩ h => h) (va_runV (As := [.int (nI (nC v0)), .int (nI (nC v1)), .int 0]) (rest := []) ⟨hx, hb, hml, hown, hts⟩ (c_X0_mile l G th tt t1 t2 t3 t4 t5 t6 t7 t8 co en sk ct et lw (nC v0) (nC v1) tx (nI jg) (nI pb) wr x21t1 y21t2 y21t3 y21t4 fki fmo y21t7 frd fc fe fct fet x21sk 0 H.size (by first | exact hj | assumption | omega) (by first | exact hp | assumption | omega) (by first | exact htn | assumption | omega) (by first | exact hc | assumption | omega) (by first | exact he | assumption | omega) (by first | exact hwx | assumption | omega)) (cwV 3 hts gX5_sand_X0_mile rfl rfl rfl (by decide +kernel) ⟨Nat.le_of_ble_eq_true rfl, Nat.le_of_ble_eq_true rfl⟩) ⟨gPre_blind, va_recv (q := (RX0, TX0, 12)) hK hP (ci := 0) (q0 := 9) rfl rfl, fun U hU hW => gPre_ofF [9, 10, 11, 12, 13, 14, 15, 16, 17, 18, 19, 20, 21, 22, 23] hU hW hK hP hD (by decide +kernel) rfl⟩ rfl rfl hl.1 rfl (lv_room (Nat.le_of_ble_eq_true rfl)) dX5_sand_47 ⟨Nat.le_of_ble_eq_true rfl, Nat.le_of_ble_eq_true rfl⟩) hS hD hA rfl (fun u t H locs ht hvm hB hz1 hk1 hFq hAq hS => ?_)
            obtain ⟨yn1_24, ysk_25⟩ := u
            obtain ⟨hP1, hK1, hD1⟩ := hB
            have hz9 : gPD G A [zo5 h0 tt rd nw th kp sh tu him, zo0 nw tt n1 n2 n3 n4 n5 n6 n7 n8 (nI jg) (nI pb) (nI lw), zi G n2 4 fso, zi G n3 4 fmi, zi G n4 4 fpa, zi G n5 6 fki, zi G n6 6 fmo, zi G n7 6 fsz, zi G n8 6 frd, zo0 th tt t1 t2 t3 t4 t5 t6 t7 t8 (nI jg) (nI pb) (nI lw), zi G t1 6 yn1_24, zi G t2 4 (m_X0_mile_n2 (nC v0) y21t2 y21t3), zi G t3 4 (upd y21t3 (nC v0) ((y21t3 (nC v0)) + 1)), zi G t4 4 (m_X0_mile_n4 (nC v0) (nC v1) y21t2 y21t3 y21t4 fki fmo y21t7 frd fct fet), zi G t5 6 fki, zi G t6 6 fmo, zi G t7 6 (m_X0_mile_n7 (nC v0) (nC v1) y21t2 y21t3 fki fmo y21t7 frd fct fet 0), zi G t8 6 frd, zo3 tt co en sk wr (nI tx), zr G co 6 fc, zr G en 6 fe, zi G ct 160 fct, zi G et 3 (nF fet), zi G sk 32 ysk_25] H := zFill hP hD [9, 10, 11, 12, 13, 14, 15, 16, 17, 18, 19, 20, 21, 22, 23] [0, 0, 0, 0, 0, 0, 0, 0, 0, 1, 2, 3, 4, 5, 6, 7, 8, 9, 10, 11, 12, 13, 14, 15] hAq hk1 hFq ht hP1 hD1 rfl (by decide +kernel)
            have hP := hz9.1
            have hD := hz9.2
            refine lv_pop hx hb dX5_sand_50 rfl ?_
            refine lv_iinc (v := nI (n21 + 1)) (lv' := [zI 3 (nI (n21 + 1)), zR 0 h0, zI 1 v0, zI 2 v1]) hx hb dX5_sand_51 hl (k := 0) rfl (nI_add n21 1) (by decide +kernel) rfl (fun ls hl => ?_)
            refine lv_goto (tgt := 21) hx hb dX5_sand_54 (by decide +kernel) ?_
            exact ih9_21 (n21 + 1) (m_X0_mile_n2 (nC v0) y21t2 y21t3) (upd y21t3 (nC v0) ((y21t3 (nC v0)) + 1)) (m_X0_mile_n4 (nC v0) (nC v1) y21t2 y21t3 y21t4 fki fmo y21t7 frd fct fet) (m_X0_mile_n7 (nC v0) (nC v1) y21t2 y21t3 fki fmo y21t7 frd fct fet 0) yn1_24 ysk_25 (by omega) (Eq.trans (Eq.symm ((congrArg (fun z9 => p_X5_sand_21 fet fki fmo frd fct v0 v1 (z9) n21 y21t2 y21t3 y21t4 y21t7) (show 61 - n21 = 61 - (n21 + 1) + 1 by omega)).trans (by show p_X5_sand_21 fet fki fmo frd fct v0 v1 (61 - (n21 + 1) + 1) n21 y21t2 y21t3 y21t4 y21t7 = _; rw [p_X5_sand_21, if_pos c_19]))) R21) (by omega) _ _ hP hD hS ls hl
          · skip
            refine lv_iload_n hx hb dX5_sand_38 rfl (lv_at hl 0 rfl) ?_
            have hF21 : (g_X5_sand_21 fet fso fmi fpa fki fmo fsz frd fct v0 v1) = (n21, y21t2, y21t3, y21t4, y21t7) := R21.symm.trans ((congrArg (fun z9 => p_X5_sand_21 fet fki fmo frd fct v0 v1 (z9) n21 y21t2 y21t3 y21t4 y21t7) (show 61 - n21 = 61 - (n21 + 1) + 1 by omega)).trans (by show p_X5_sand_21 fet fki fmo frd fct v0 v1 (61 - (n21 + 1) + 1) n21 y21t2 y21t3 y21t4 y21t7 = _; rw [p_X5_sand_21, if_neg c_19]))
            have hE21_0 : n21 = ((g_X5_sand_21 fet fso fmi fpa fki fmo fsz frd fct v0 v1).1) := by rw [hF21]
            have hE21_1 : y21t2 = ((g_X5_sand_21 fet fso fmi fpa fki fmo fsz frd fct v0 v1).2.1) := by rw [hF21]
            have hE21_2 : y21t3 = ((g_X5_sand_21 fet fso fmi fpa fki fmo fsz frd fct v0 v1).2.2.1) := by rw [hF21]
            have hE21_3 : y21t4 = ((g_X5_sand_21 fet fso fmi fpa fki fmo fsz frd fct v0 v1).2.2.2.1) := by rw [hF21]
            have hE21_4 : y21t7 = ((g_X5_sand_21 fet fso fmi fpa fki fmo fsz frd fct v0 v1).2.2.2.2) := by rw [hF21]
            clear hF21 R21
            subst hE21_0
            subst hE21_1
            subst hE21_2
            subst hE21_3
            subst hE21_4
            have q_26 : m_X5_sand_th9 jg pb tj v0 v1 = nI jg := by unfold m_X5_sand_th9; rw [if_pos p_4]
            have q_27 : m_X5_sand_th10 jg pb tb v0 v1 = nI pb := by unfold m_X5_sand_th10; rw [if_pos p_4]
            have q_28 : m_X5_sand_th11 jg pb lw tl v0 v1 = nI lw := by unfold m_X5_sand_th11; rw [if_pos p_4]
            have hz9 : gPD G A [zo5 h0 tt rd nw th kp sh tu him, zo0 nw tt n1 n2 n3 n4 n5 n6 n7 n8 (nI jg) (nI pb) (nI lw), zi G n2 4 fso, zi G n3 4 fmi, zi G n4 4 fpa, zi G n5 6 fki, zi G n6 6 fmo, zi G n7 6 fsz, zi G n8 6 frd, zo0 th tt t1 t2 t3 t4 t5 t6 t7 t8 (m_X5_sand_th9 jg pb tj v0 v1) (m_X5_sand_th10 jg pb tb v0 v1) (m_X5_sand_th11 jg pb lw tl v0 v1), zi G t1 6 x21t1, zi G t2 4 ((g_X5_sand_21 fet fso fmi fpa fki fmo fsz frd fct v0 v1).2.1), zi G t3 4 ((g_X5_sand_21 fet fso fmi fpa fki fmo fsz frd fct v0 v1).2.2.1), zi G t4 4 ((g_X5_sand_21 fet fso fmi fpa fki fmo fsz frd fct v0 v1).2.2.2.1), zi G t5 6 fki, zi G t6 6 fmo, zi G t7 6 ((g_X5_sand_21 fet fso fmi fpa fki fmo fsz frd fct v0 v1).2.2.2.2), zi G t8 6 frd, zo3 tt co en sk wr (nI tx), zr G co 6 fc, zr G en 6 fe, zi G ct 160 fct, zi G et 3 (nF fet), zi G sk 32 x21sk] H := ⟨by rw [q_26, q_27, q_28]; exact hP, by rw [q_26, q_27, q_28]; exact hD⟩
            have hP9 := hz9.1
            have hD9 := hz9.2
            have hpost : (fun (r : Int32) (u : (Nat → Int32) × (Nat → Int32) × (Nat → Int32) × (Nat → Int32) × (Nat → Int32) × (Nat → Int32) × (Nat → Int32) × (Nat → Int32) × (Nat → Int32)) => match u with | (yt1, yt2, yt3, yt4, yt5, yt6, yt7, yt8, ysk) => r = m_X5_sand jg pb fet fso fmi fpa fki fmo fsz frd fct v0 v1) (nI ((g_X5_sand_21 fet fso fmi fpa fki fmo fsz frd fct v0 v1).1)) (x21t1, ((g_X5_sand_21 fet fso fmi fpa fki fmo fsz frd fct v0 v1).2.1), ((g_X5_sand_21 fet fso fmi fpa fki fmo fsz frd fct v0 v1).2.2.1), ((g_X5_sand_21 fet fso fmi fpa fki fmo fsz frd fct v0 v1).2.2.2.1), fki, fmo, ((g_X5_sand_21 fet fso fmi fpa fki fmo fsz frd fct v0 v1).2.2.2.2), frd, x21sk) := (show m_X5_sand jg pb fet fso fmi fpa fki fmo fsz frd fct v0 v1 = (nI ((g_X5_sand_21 fet fso fmi fpa fki fmo fsz frd fct v0 v1).1)) from by unfold m_X5_sand; rw [if_pos p_4, if_neg c_12]).symm
            exact W.iret (v := (nI ((g_X5_sand_21 fet fso fmi fpa fki fmo fsz frd fct v0 v1).1))) hx hb hr (fun t ht hW => ⟨⟨(nI ((g_X5_sand_21 fet fso fmi fpa fki fmo fsz frd fct v0 v1).1)), (x21t1, ((g_X5_sand_21 fet fso fmi fpa fki fmo fsz frd fct v0 v1).2.1), ((g_X5_sand_21 fet fso fmi fpa fki fmo fsz frd fct v0 v1).2.2.1), ((g_X5_sand_21 fet fso fmi fpa fki fmo fsz frd fct v0 v1).2.2.2.1), fki, fmo, ((g_X5_sand_21 fet fso fmi fpa fki fmo fsz frd fct v0 v1).2.2.2.2), frd, x21sk), rfl, hpost, by rw [ht]; exact hP9, va_K.moved hW.alike hK, hD9⟩, hS.F ht⟩) hS.2.2 dX5_sand_39
    exact loop_21 (61 - 0 + 1) 0 fso fmi fpa fsz unm fsk (by omega) (rfl) (by omega) _ _ hP hD hS ls hl
  · skip
    have n_5 : (mBoth jg pb v0 v1) = false := bz_eq rfl c_3
    have n_5N : ¬ ((mBoth jg pb v0 v1) = true) := by rw [n_5]; decide
    refine lv_bipush (v := -5) hx hb dX5_sand_12 (by decide +kernel) ?_
    have q_29 : m_X5_sand_th9 jg pb tj v0 v1 = tj := by unfold m_X5_sand_th9; rw [if_neg n_5N]
    have q_30 : m_X5_sand_th10 jg pb tb v0 v1 = tb := by unfold m_X5_sand_th10; rw [if_neg n_5N]
    have q_31 : m_X5_sand_th11 jg pb lw tl v0 v1 = tl := by unfold m_X5_sand_th11; rw [if_neg n_5N]
    have hz9 : gPD G A [zo5 h0 tt rd nw th kp sh tu him, zo0 nw tt n1 n2 n3 n4 n5 n6 n7 n8 (nI jg) (nI pb) (nI lw), zi G n2 4 fso, zi G n3 4 fmi, zi G n4 4 fpa, zi G n5 6 fki, zi G n6 6 fmo, zi G n7 6 fsz, zi G n8 6 frd, zo0 th tt t1 t2 t3 t4 t5 t6 t7 t8 (m_X5_sand_th9 jg pb tj v0 v1) (m_X5_sand_th10 jg pb tb v0 v1) (m_X5_sand_th11 jg pb lw tl v0 v1), zi G t1 6 unm, zi G t2 4 uso, zi G t3 4 umi, zi G t4 4 upa, zi G t5 6 uki, zi G t6 6 umo, zi G t7 6 usz, zi G t8 6 urd, zo3 tt co en sk wr (nI tx), zr G co 6 fc, zr G en 6 fe, zi G ct 160 fct, zi G et 3 (nF fet), zi G sk 32 fsk] H := ⟨by rw [q_29, q_30, q_31]; exact hP, by rw [q_29, q_30, q_31]; exact hD⟩
    have hP9 := hz9.1
    have hD9 := hz9.2
    have hpost : (fun (r : Int32) (u : (Nat → Int32) × (Nat → Int32) × (Nat → Int32) × (Nat → Int32) × (Nat → Int32) × (Nat → Int32) × (Nat → Int32) × (Nat → Int32) × (Nat → Int32)) => match u with | (yt1, yt2, yt3, yt4, yt5, yt6, yt7, yt8, ysk) => r = m_X5_sand jg pb fet fso fmi fpa fki fmo fsz frd fct v0 v1) (-5) (unm, uso, umi, upa, uki, umo, usz, urd, fsk) := (show m_X5_sand jg pb fet fso fmi fpa fki fmo fsz frd fct v0 v1 = (-5) from by unfold m_X5_sand; rw [if_neg n_5N]).symm
    exact W.iret (v := (-5)) hx hb hr (fun t ht hW => ⟨⟨(-5), (unm, uso, umi, upa, uki, umo, usz, urd, fsk), rfl, hpost, by rw [ht]; exact hP9, va_K.moved hW.alike hK, hD9⟩, hS.F ht⟩) hS.2.2 dX5_sand_14
noncomputable def m_X5_unlike (jg : Nat) (pb : Nat) (fet : Nat → Nat) (fso : Nat → Int32) (fmi : Nat → Int32) (fpa : Nat → Int32) (fki : Nat → Int32) (fmo : Nat → Int32) (fsz : Nat → Int32) (frd : Nat → Int32) (fct : Nat → Int32) (v0 : Int32) (v1 : Int32) (v2 : Int32) : Int32 := if (mBoth jg pb v0 v2) = true then (if (mHas jg v1) = true then (if (nI (nC v0)) = (nI (nC v1)) then -5 else m_X5_leastBit ((m_X5_guiltyBits fet fso fmi fpa fki fmo fsz frd fct (nC v0) (nC v2)) ^^^ (m_X5_guiltyBits fet fso fmi fpa fki fmo fsz frd fct (nC v1) (nC v2)))) else -5) else -5
noncomputable def m_X5_unlike_th9 (jg : Nat) (pb : Nat) (tj : Int32) (v0 : Int32) (v1 : Int32) (v2 : Int32) : Int32 := if (mBoth jg pb v0 v2) = true then (if (mHas jg v1) = true then (if (nI (nC v0)) = (nI (nC v1)) then tj else nI jg) else tj) else tj
noncomputable def m_X5_unlike_th10 (jg : Nat) (pb : Nat) (tb : Int32) (v0 : Int32) (v1 : Int32) (v2 : Int32) : Int32 := if (mBoth jg pb v0 v2) = true then (if (mHas jg v1) = true then (if (nI (nC v0)) = (nI (nC v1)) then tb else nI pb) else tb) else tb
noncomputable def m_X5_unlike_th11 (jg : Nat) (pb : Nat) (lw : Nat) (tl : Int32) (v0 : Int32) (v1 : Int32) (v2 : Int32) : Int32 := if (mBoth jg pb v0 v2) = true then (if (mHas jg v1) = true then (if (nI (nC v0)) = (nI (nC v1)) then tl else nI lw) else tl) else tl
abbrev q_X5_unlike (G : gG) (h0 tt rd nw th kp sh tu n1 n2 n3 n4 n5 n6 n7 n8 t1 t2 t3 t4 t5 t6 t7 t8 co en sk ct et : Nat) (jg : Nat) (pb : Nat) (lw : Nat) (tx : Nat) (him : Int32) (wr : Int32) (tj : Int32) (tb : Int32) (tl : Int32) (fc : Nat → Option Nat) (fe : Nat → Option Nat) (fet : Nat → Nat) (fso : Nat → Int32) (fmi : Nat → Int32) (fpa : Nat → Int32) (fki : Nat → Int32) (fmo : Nat → Int32) (fsz : Nat → Int32) (frd : Nat → Int32) (unm : Nat → Int32) (uso : Nat → Int32) (umi : Nat → Int32) (upa : Nat → Int32) (uki : Nat → Int32) (umo : Nat → Int32) (usz : Nat → Int32) (urd : Nat → Int32) (fct : Nat → Int32) (fsk : Nat → Int32) (v0 : Int32) (v1 : Int32) (v2 : Int32) (A : Nat → Prop) : Array Value → State → Outcome → State → Prop := va_Qi (fun (r : Int32) (u : (Nat → Int32) × (Nat → Int32) × (Nat → Int32) × (Nat → Int32) × (Nat → Int32) × (Nat → Int32) × (Nat → Int32) × (Nat → Int32) × (Nat → Int32)) => match u with | (yt1, yt2, yt3, yt4, yt5, yt6, yt7, yt8, ysk) => r = m_X5_unlike jg pb fet fso fmi fpa fki fmo fsz frd fct v0 v1 v2) (fun (u : (Nat → Int32) × (Nat → Int32) × (Nat → Int32) × (Nat → Int32) × (Nat → Int32) × (Nat → Int32) × (Nat → Int32) × (Nat → Int32) × (Nat → Int32)) t => match u with | (yt1, yt2, yt3, yt4, yt5, yt6, yt7, yt8, ysk) => va_P G.1 vwCl [zo5 h0 tt rd nw th kp sh tu him, zo0 nw tt n1 n2 n3 n4 n5 n6 n7 n8 (nI jg) (nI pb) (nI lw), zi G n2 4 fso, zi G n3 4 fmi, zi G n4 4 fpa, zi G n5 6 fki, zi G n6 6 fmo, zi G n7 6 fsz, zi G n8 6 frd, zo0 th tt t1 t2 t3 t4 t5 t6 t7 t8 (m_X5_unlike_th9 jg pb tj v0 v1 v2) (m_X5_unlike_th10 jg pb tb v0 v1 v2) (m_X5_unlike_th11 jg pb lw tl v0 v1 v2), zi G t1 6 yt1, zi G t2 4 yt2, zi G t3 4 yt3, zi G t4 4 yt4, zi G t5 6 yt5, zi G t6 6 yt6, zi G t7 6 yt7, zi G t8 6 yt8, zo3 tt co en sk wr (nI tx), zr G co 6 fc, zr G en 6 fe, zi G ct 160 fct, zi G et 3 (nF fet), zi G sk 32 ysk] t.heap ∧ gK G t ∧ va_D A [zo5 h0 tt rd nw th kp sh tu him, zo0 nw tt n1 n2 n3 n4 n5 n6 n7 n8 (nI jg) (nI pb) (nI lw), zi G n2 4 fso, zi G n3 4 fmi, zi G n4 4 fpa, zi G n5 6 fki, zi G n6 6 fmo, zi G n7 6 fsz, zi G n8 6 frd, zo0 th tt t1 t2 t3 t4 t5 t6 t7 t8 (m_X5_unlike_th9 jg pb tj v0 v1 v2) (m_X5_unlike_th10 jg pb tb v0 v1 v2) (m_X5_unlike_th11 jg pb lw tl v0 v1 v2), zi G t1 6 yt1, zi G t2 4 yt2, zi G t3 4 yt3, zi G t4 4 yt4, zi G t5 6 yt5, zi G t6 6 yt6, zi G t7 6 yt7, zi G t8 6 yt8, zo3 tt co en sk wr (nI tx), zr G co 6 fc, zr G en 6 fe, zi G ct 160 fct, zi G et 3 (nF fet), zi G sk 32 ysk]) A
set_option maxHeartbeats 4000000 in
set_option maxRecDepth 100000 in
theorem c_X5_unlike (l : Launch) (G : gG) (h0 tt rd nw th kp sh tu n1 n2 n3 n4 n5 n6 n7 n8 t1 t2 t3 t4 t5 t6 t7 t8 co en sk ct et : Nat) (jg : Nat) (pb : Nat) (lw : Nat) (tx : Nat) (him : Int32) (wr : Int32) (tj : Int32) (tb : Int32) (tl : Int32) (fc : Nat → Option Nat) (fe : Nat → Option Nat) (fet : Nat → Nat) (fso : Nat → Int32) (fmi : Nat → Int32) (fpa : Nat → Int32) (fki : Nat → Int32) (fmo : Nat → Int32) (fsz : Nat → Int32) (frd : Nat → Int32) (unm : Nat → Int32) (uso : Nat → Int32) (umi : Nat → Int32) (upa : Nat → Int32) (uki : Nat → Int32) (umo : Nat → Int32) (usz : Nat → Int32) (urd : Nat → Int32) (fct : Nat → Int32) (fsk : Nat → Int32) (v0 : Int32) (v1 : Int32) (v2 : Int32) (sz : Nat) (htn : lw < tx ∧ tx ≤ 6) (hc : fc lw = some ct) (he : fe lw = some et) (hwx : mWx fct fet) (hjg : jg ≤ 4) (hpb : pb ≤ 6) : Met l yX5_unlike wsX5_unlike ({ frames := 5, cells := 0, slots := 0, locals := 467 }) (gPre G [.ref h0, .int v0, .int v1, .int v2] [zo5 h0 tt rd nw th kp sh tu him, zo0 nw tt n1 n2 n3 n4 n5 n6 n7 n8 (nI jg) (nI pb) (nI lw), zi G n2 4 fso, zi G n3 4 fmi, zi G n4 4 fpa, zi G n5 6 fki, zi G n6 6 fmo, zi G n7 6 fsz, zi G n8 6 frd, zo0 th tt t1 t2 t3 t4 t5 t6 t7 t8 tj tb tl, zi G t1 6 unm, zi G t2 4 uso, zi G t3 4 umi, zi G t4 4 upa, zi G t5 6 uki, zi G t6 6 umo, zi G t7 6 usz, zi G t8 6 urd, zo3 tt co en sk wr (nI tx), zr G co 6 fc, zr G en 6 fe, zi G ct 160 fct, zi G et 3 (nF fet), zi G sk 32 fsk] sz) (q_X5_unlike G h0 tt rd nw th kp sh tu n1 n2 n3 n4 n5 n6 n7 n8 t1 t2 t3 t4 t5 t6 t7 t8 co en sk ct et jg pb lw tx him wr tj tb tl fc fe fet fso fmi fpa fki fmo fsz frd unm uso umi upa uki umo usz urd fct fsk v0 v1 v2 (va_A [zo5 h0 tt rd nw th kp sh tu him, zo0 nw tt n1 n2 n3 n4 n5 n6 n7 n8 (nI jg) (nI pb) (nI lw), zi G n2 4 fso, zi G n3 4 fmi, zi G n4 4 fpa, zi G n5 6 fki, zi G n6 6 fmo, zi G n7 6 fsz, zi G n8 6 frd, zo0 th tt t1 t2 t3 t4 t5 t6 t7 t8 tj tb tl, zi G t1 6 unm, zi G t2 4 uso, zi G t3 4 umi, zi G t4 4 upa, zi G t5 6 uki, zi G t6 6 umo, zi G t7 6 usz, zi G t8 6 urd, zo3 tt co en sk wr (nI tx), zr G co 6 fc, zr G en 6 fe, zi G ct 160 fct, zi G et 3 (nF fet), zi G sk 32 fsk] sz)) 0 0 (va_A [zo5 h0 tt rd nw th kp sh tu him, zo0 nw tt n1 n2 n3 n4 n5 n6 n7 n8 (nI jg) (nI pb) (nI lw), zi G n2 4 fso, zi G n3 4 fmi, zi G n4 4 fpa, zi G n5 6 fki, zi G n6 6 fmo, zi G n7 6 fsz, zi G n8 6 frd, zo0 th tt t1 t2 t3 t4 t5 t6 t7 t8 tj tb tl, zi G t1 6 unm, zi G t2 4 uso, zi G t3 4 umi, zi G t4 4 upa, zi G t5 6 uki, zi G t6 6 umo, zi G t7 6 usz, zi G t8 6 urd, zo3 tt co en sk wr (nI tx), zr G co 6 fc, zr G en 6 fe, zi G ct 160 fct, zi G et 3 (nF fet), zi G sk 32 fsk] sz) := by
  refine Met.ofW (cc := cX5_unlike) (maxL := 4) (ret := (some .int)) (by decide +kernel) rfl ?_
  intro p e s m args below meth c s₁ B hml hv
  obtain ⟨rfl, hsz, hP, hK, hD0⟩ := hv
  have hx := B.exec
  have hb := B.bytes
  have hr := B.returns
  have hts := atoms_spec (ws := wsX5_unlike) B.pre
  have hown : s.vm.findClass RX5 = some m.cls := findClass_of_methodNamed B.named
  have hlocks := B.notSynchronized
  subst hsz
  have hD := hD0.self (sz := s.heap.size)
  generalize hAe : va_A [zo5 h0 tt rd nw th kp sh tu him, zo0 nw tt n1 n2 n3 n4 n5 n6 n7 n8 (nI jg) (nI pb) (nI lw), zi G n2 4 fso, zi G n3 4 fmi, zi G n4 4 fpa, zi G n5 6 fki, zi G n6 6 fmo, zi G n7 6 fsz, zi G n8 6 frd, zo0 th tt t1 t2 t3 t4 t5 t6 t7 t8 tj tb tl, zi G t1 6 unm, zi G t2 4 uso, zi G t3 4 umi, zi G t4 4 upa, zi G t5 6 uki, zi G t6 6 umo, zi G t7 6 usz, zi G t8 6 urd, zo3 tt co en sk wr (nI tx), zr G co 6 fc, zr G en 6 fe, zi G ct 160 fct, zi G et 3 (nF fet), zi G sk 32 fsk] s.heap.size = A at hD ⊢
  have hA : ∀ q : Nat, s.heap.size ≤ q → A q := fun q h => by rw [← hAe]; exact Or.inr h
  have hS : va_S A s.heap s.heap [] := va_S.rf
  have hz9 : gPD G A [zo5 h0 tt rd nw th kp sh tu him, zo0 nw tt n1 n2 n3 n4 n5 n6 n7 n8 (nI jg) (nI pb) (nI lw), zi G n2 4 fso, zi G n3 4 fmi, zi G n4 4 fpa, zi G n5 6 fki, zi G n6 6 fmo, zi G n7 6 fsz, zi G n8 6 frd, zo0 th tt t1 t2 t3 t4 t5 t6 t7 t8 tj tb tl, zi G t1 6 unm, zi G t2 4 uso, zi G t3 4 umi, zi G t4 4 upa, zi G t5 6 uki, zi G t6 6 umo, zi G t7 6 usz, zi G t8 6 urd, zo3 tt co en sk wr (nI tx), zr G co 6 fc, zr G en 6 fe, zi G ct 160 fct, zi G et 3 (nF fet), zi G sk 32 fsk] s.heap := ⟨hP, hD⟩
  have hP := hz9.1
  have hD := hz9.2
  have hl := lv_entry ([.ref h0, .int v0, .int v1, .int v2]) (n := 4) (Nat.le_of_ble_eq_true rfl)
  rw [lg_entry_eq]
  generalize (lg_sl ([.ref h0, .int v0, .int v1, .int v2]) ++ List.replicate (4 - (lg_sl ([.ref h0, .int v0, .int v1, .int v2])).length) Slot.unset).toArray = ls at hl ⊢
  have hl : lv_has ls 4 [zR 0 h0, zI 1 v0, zI 2 v1, zI 3 v2] := hl
  have kf28 := hts (.fieldLink RX5 28 "PebbleInShoe" "now" "LPebbleInShoe$Court;") (by decide +kernel)
  have hiX5 := (by decide +kernel : ∀ w ∈ wsX50, w ∈ wsX5_unlike)
  refine g_aget (D := G.1) (ci := 5) (v := .ref nw) (C := RX5) (T := TX5) (N := 8) hx hb dX5_unlike_0 rfl (lv_at hl 0 rfl) hts hiX5 hown hK hP 0 rfl rfl 2 (by decide +kernel) kf28 (fun _ h9 => h9) rfl dX5_unlike_1 ?_
  refine lv_iload_n hx hb dX5_unlike_4 rfl (lv_at hl 1 rfl) ?_
  refine lv_iload_n hx hb dX5_unlike_5 rfl (lv_at hl 3 rfl) ?_
  refine z_calli [1] (v := bz (mBoth jg pb v0 v2)) (fun _ _ h => h) (va_runV (As := [.int v0, .int v2]) (rest := []) ⟨hx, hb, hml, hown, hts⟩ (c_X0_hasBoth_g l G nw tt n1 n2 n3 n4 n5 n6 n7 n8 jg pb lw v0 v2 s.heap.size (by first | exact hjg | assumption | omega) (by first | exact hpb | assumption | omega)) (cwV 2 hts gX5_unlike_X0_hasBoth rfl rfl rfl (by decide +kernel) ⟨Nat.le_of_ble_eq_true rfl, Nat.le_of_ble_eq_true rfl⟩) ⟨gPre_blind, va_recv (q := (RX0, TX0, 12)) hK hP (ci := 0) (q0 := 1) rfl rfl, fun U hU hW => gPre_ofF [1] hU hW hK hP hD (by decide +kernel) rfl⟩ rfl rfl hl.1 rfl (lv_room (Nat.le_of_ble_eq_true rfl)) dX5_unlike_6 ⟨Nat.le_of_ble_eq_true rfl, Nat.le_of_ble_eq_true rfl⟩) hS hD hA rfl (fun u t H locs ht hvm hB hz1 hk1 hFq hAq hS => ?_)
  obtain ⟨hP1, hK1, hD1⟩ := hB
  have hP := zKeep hP hD [1] hAq hk1 ht hP1 rfl
  refine lv_if_eq (tgt := 28) hx hb dX5_unlike_9 (by decide +kernel) (fun c_3 => ?_) (fun c_3 => ?_)
  · skip
    have n_5 : (mBoth jg pb v0 v2) = false := bz_eq rfl c_3
    have n_5N : ¬ ((mBoth jg pb v0 v2) = true) := by rw [n_5]; decide
    refine lv_bipush (v := -5) hx hb dX5_unlike_28 (by decide +kernel) ?_
    have q_10 : m_X5_unlike_th9 jg pb tj v0 v1 v2 = tj := by unfold m_X5_unlike_th9; rw [if_neg n_5N]
    have q_11 : m_X5_unlike_th10 jg pb tb v0 v1 v2 = tb := by unfold m_X5_unlike_th10; rw [if_neg n_5N]
    have q_12 : m_X5_unlike_th11 jg pb lw tl v0 v1 v2 = tl := by unfold m_X5_unlike_th11; rw [if_neg n_5N]
    have hz9 : gPD G A [zo5 h0 tt rd nw th kp sh tu him, zo0 nw tt n1 n2 n3 n4 n5 n6 n7 n8 (nI jg) (nI pb) (nI lw), zi G n2 4 fso, zi G n3 4 fmi, zi G n4 4 fpa, zi G n5 6 fki, zi G n6 6 fmo, zi G n7 6 fsz, zi G n8 6 frd, zo0 th tt t1 t2 t3 t4 t5 t6 t7 t8 (m_X5_unlike_th9 jg pb tj v0 v1 v2) (m_X5_unlike_th10 jg pb tb v0 v1 v2) (m_X5_unlike_th11 jg pb lw tl v0 v1 v2), zi G t1 6 unm, zi G t2 4 uso, zi G t3 4 umi, zi G t4 4 upa, zi G t5 6 uki, zi G t6 6 umo, zi G t7 6 usz, zi G t8 6 urd, zo3 tt co en sk wr (nI tx), zr G co 6 fc, zr G en 6 fe, zi G ct 160 fct, zi G et 3 (nF fet), zi G sk 32 fsk] H := ⟨by rw [q_10, q_11, q_12]; exact hP, by rw [q_10, q_11, q_12]; exact hD⟩
    have hP9 := hz9.1
    have hD9 := hz9.2
    have hpost : (fun (r : Int32) (u : (Nat → Int32) × (Nat → Int32) × (Nat → Int32) × (Nat → Int32) × (Nat → Int32) × (Nat → Int32) × (Nat → Int32) × (Nat → Int32) × (Nat → Int32)) => match u with | (yt1, yt2, yt3, yt4, yt5, yt6, yt7, yt8, ysk) => r = m_X5_unlike jg pb fet fso fmi fpa fki fmo fsz frd fct v0 v1 v2) (-5) (unm, uso, umi, upa, uki, umo, usz, urd, fsk) := (show m_X5_unlike jg pb fet fso fmi fpa fki fmo fsz frd fct v0 v1 v2 = (-5) from by unfold m_X5_unlike; rw [if_neg n_5N]).symm
    exact W.iret (v := (-5)) hx hb hr (fun t ht hW => ⟨⟨(-5), (unm, uso, umi, upa, uki, umo, usz, urd, fsk), rfl, hpost, by rw [ht]; exact hP9, va_K.moved hW.alike hK, hD9⟩, hS.F ht⟩) hS.2.2 dX5_unlike_30
  · skip
    have p_4 : (mBoth jg pb v0 v2) = true := bz_ne rfl c_3
    have hv_6 : v0 = nI (nC v0) := mHas_eq (mBoth_1 p_4)
    have hk_7 : nC v0 < jg := mHas_lt (by omega) (mBoth_1 p_4)
    have hv_8 : v2 = nI (nC v2) := mHas_eq (mBoth_2 p_4)
    have hk_9 : nC v2 < pb := mHas_lt (by omega) (mBoth_2 p_4)
    refine g_aget (D := G.1) (ci := 5) (v := .ref nw) (C := RX5) (T := TX5) (N := 8) hx hb dX5_unlike_12 rfl (lv_at hl 0 rfl) hts hiX5 hown hK hP 0 rfl rfl 2 (by decide +kernel) kf28 (fun _ h9 => h9) rfl dX5_unlike_13 ?_
    refine lv_iload_n hx hb dX5_unlike_16 rfl (lv_at hl 2 rfl) ?_
    refine z_calli [1] (v := bz (mHas jg v1)) (fun _ _ h => h) (va_runV (As := [.int v1]) (rest := []) ⟨hx, hb, hml, hown, hts⟩ (c_X0_hasJudge_g l G nw tt n1 n2 n3 n4 n5 n6 n7 n8 jg pb lw v1 H.size (by first | exact hjg | assumption | omega) (by first | exact hpb | assumption | omega)) (cwV 1 hts gX5_unlike_X0_hasJudge rfl rfl rfl (by decide +kernel) ⟨Nat.le_of_ble_eq_true rfl, Nat.le_of_ble_eq_true rfl⟩) ⟨gPre_blind, va_recv (q := (RX0, TX0, 12)) hK hP (ci := 0) (q0 := 1) rfl rfl, fun U hU hW => gPre_ofF [1] hU hW hK hP hD (by decide +kernel) rfl⟩ rfl rfl hl.1 rfl (lv_room (Nat.le_of_ble_eq_true rfl)) dX5_unlike_17 ⟨Nat.le_of_ble_eq_true rfl, Nat.le_of_ble_eq_true rfl⟩) hS hD hA rfl (fun u t H locs ht hvm hB hz1 hk1 hFq hAq hS => ?_)
    obtain ⟨hP1, hK1, hD1⟩ := hB
    have hP := zKeep hP hD [1] hAq hk1 ht hP1 rfl
    refine lv_if_eq (tgt := 28) hx hb dX5_unlike_20 (by decide +kernel) (fun c_15 => ?_) (fun c_15 => ?_)
    · skip
      have n_17 : (mHas jg v1) = false := bz_eq rfl c_15
      have n_17N : ¬ ((mHas jg v1) = true) := by rw [n_17]; decide
      refine lv_bipush (v := -5) hx hb dX5_unlike_28 (by decide +kernel) ?_
      have q_20 : m_X5_unlike_th9 jg pb tj v0 v1 v2 = tj := by unfold m_X5_unlike_th9; rw [if_pos p_4, if_neg n_17N]
      have q_21 : m_X5_unlike_th10 jg pb tb v0 v1 v2 = tb := by unfold m_X5_unlike_th10; rw [if_pos p_4, if_neg n_17N]
      have q_22 : m_X5_unlike_th11 jg pb lw tl v0 v1 v2 = tl := by unfold m_X5_unlike_th11; rw [if_pos p_4, if_neg n_17N]
      have hz9 : gPD G A [zo5 h0 tt rd nw th kp sh tu him, zo0 nw tt n1 n2 n3 n4 n5 n6 n7 n8 (nI jg) (nI pb) (nI lw), zi G n2 4 fso, zi G n3 4 fmi, zi G n4 4 fpa, zi G n5 6 fki, zi G n6 6 fmo, zi G n7 6 fsz, zi G n8 6 frd, zo0 th tt t1 t2 t3 t4 t5 t6 t7 t8 (m_X5_unlike_th9 jg pb tj v0 v1 v2) (m_X5_unlike_th10 jg pb tb v0 v1 v2) (m_X5_unlike_th11 jg pb lw tl v0 v1 v2), zi G t1 6 unm, zi G t2 4 uso, zi G t3 4 umi, zi G t4 4 upa, zi G t5 6 uki, zi G t6 6 umo, zi G t7 6 usz, zi G t8 6 urd, zo3 tt co en sk wr (nI tx), zr G co 6 fc, zr G en 6 fe, zi G ct 160 fct, zi G et 3 (nF fet), zi G sk 32 fsk] H := ⟨by rw [q_20, q_21, q_22]; exact hP, by rw [q_20, q_21, q_22]; exact hD⟩
      have hP9 := hz9.1
      have hD9 := hz9.2
      have hpost : (fun (r : Int32) (u : (Nat → Int32) × (Nat → Int32) × (Nat → Int32) × (Nat → Int32) × (Nat → Int32) × (Nat → Int32) × (Nat → Int32) × (Nat → Int32) × (Nat → Int32)) => match u with | (yt1, yt2, yt3, yt4, yt5, yt6, yt7, yt8, ysk) => r = m_X5_unlike jg pb fet fso fmi fpa fki fmo fsz frd fct v0 v1 v2) (-5) (unm, uso, umi, upa, uki, umo, usz, urd, fsk) := (show m_X5_unlike jg pb fet fso fmi fpa fki fmo fsz frd fct v0 v1 v2 = (-5) from by unfold m_X5_unlike; rw [if_pos p_4, if_neg n_17N]).symm
      exact W.iret (v := (-5)) hx hb hr (fun t ht hW => ⟨⟨(-5), (unm, uso, umi, upa, uki, umo, usz, urd, fsk), rfl, hpost, by rw [ht]; exact hP9, va_K.moved hW.alike hK, hD9⟩, hS.F ht⟩) hS.2.2 dX5_unlike_30
    · skip
      have p_16 : (mHas jg v1) = true := bz_ne rfl c_15
      have hv_18 : v1 = nI (nC v1) := mHas_eq p_16
      have hk_19 : nC v1 < jg := mHas_lt (by omega) p_16
      refine lv_iload_n hx hb dX5_unlike_23 rfl (lv_at hl 1 rfl) ?_
      refine g_topi (y := nI (nC v0)) hv_6 ?_
      refine lv_iload_n hx hb dX5_unlike_24 rfl (lv_at hl 2 rfl) ?_
      refine g_topi (y := nI (nC v1)) hv_18 ?_
      refine lv_icmp_ne (tgt := 31) hx hb dX5_unlike_25 (by decide +kernel) (fun c_25 => ?_) (fun c_25 => ?_)
      · skip
        have c_25N : ¬ (nC v0) = (nC v1) := nI_eq0 (a := (nC v0)) (b := (nC v1)) (by omega) (by omega) c_25
        refine lv_aload_n hx hb dX5_unlike_31 rfl (lv_at hl 0 rfl) ?_
        refine lv_iload_n hx hb dX5_unlike_32 rfl (lv_at hl 1 rfl) ?_
        refine g_topi (y := nI (nC v0)) hv_6 ?_
        refine lv_iload_n hx hb dX5_unlike_33 rfl (lv_at hl 3 rfl) ?_
        refine g_topi (y := nI (nC v2)) hv_8 ?_
        refine z_calll [0, 1, 2, 3, 4, 5, 6, 7, 8, 9, 10, 11, 12, 13, 14, 15, 16, 17, 18, 19, 20, 21, 22, 23] (v := m_X5_guiltyBits fet fso fmi fpa fki fmo fsz frd fct (nC v0) (nC v2)) (fun _ ⟨_, _, _, _, _, _⟩ h => h) (va_runV (As := [.int (nI (nC v0)), .int (nI (nC v2))]) (rest := []) ⟨hx, hb, hml, hown, hts⟩ (c_X5_guiltyBits l G h0 tt rd nw th kp sh tu n1 n2 n3 n4 n5 n6 n7 n8 t1 t2 t3 t4 t5 t6 t7 t8 co en sk ct et jg pb lw tx him wr tj tb tl fc fe fet fso fmi fpa fki fmo fsz frd unm uso umi upa uki umo usz urd fct fsk (nC v0) (nC v2) H.size (by first | exact hj | assumption | omega) (by first | exact hp | assumption | omega) (by first | exact htn | assumption | omega) (by first | exact hc | assumption | omega) (by first | exact he | assumption | omega) (by first | exact hwx | assumption | omega) (by first | exact hjg | assumption | omega) (by first | exact hpb | assumption | omega)) (cwV 2 hts gX5_unlike_X5_guiltyBits rfl rfl rfl (by decide +kernel) ⟨Nat.le_of_ble_eq_true rfl, Nat.le_of_ble_eq_true rfl⟩) ⟨gPre_blind, va_recv (q := (RX5, TX5, 8)) hK hP (ci := 5) (q0 := 0) rfl rfl, fun U hU hW => gPre_of hU hW hK hP hD⟩ rfl rfl hl.1 rfl (lv_room (Nat.le_of_ble_eq_true rfl)) dX5_unlike_34 ⟨Nat.le_of_ble_eq_true rfl, Nat.le_of_ble_eq_true rfl⟩) hS hD hA rfl (fun u t H locs ht hvm hB hz1 hk1 hFq hAq hS => ?_)
        obtain ⟨yt1_30, yt2_31, yt3_32, yt4_33, yt7_34, ysk_35⟩ := u
        obtain ⟨hP1, hK1, hD1⟩ := hB
        have hz9 : gPD G A [zo5 h0 tt rd nw th kp sh tu him, zo0 nw tt n1 n2 n3 n4 n5 n6 n7 n8 (nI jg) (nI pb) (nI lw), zi G n2 4 fso, zi G n3 4 fmi, zi G n4 4 fpa, zi G n5 6 fki, zi G n6 6 fmo, zi G n7 6 fsz, zi G n8 6 frd, zo0 th tt t1 t2 t3 t4 t5 t6 t7 t8 (nI jg) (nI pb) (nI lw), zi G t1 6 yt1_30, zi G t2 4 yt2_31, zi G t3 4 yt3_32, zi G t4 4 yt4_33, zi G t5 6 fki, zi G t6 6 fmo, zi G t7 6 yt7_34, zi G t8 6 frd, zo3 tt co en sk wr (nI tx), zr G co 6 fc, zr G en 6 fe, zi G ct 160 fct, zi G et 3 (nF fet), zi G sk 32 ysk_35] H := zFill hP hD [0, 1, 2, 3, 4, 5, 6, 7, 8, 9, 10, 11, 12, 13, 14, 15, 16, 17, 18, 19, 20, 21, 22, 23] [1, 2, 3, 4, 5, 6, 7, 8, 9, 10, 11, 12, 13, 14, 15, 16, 17, 18, 19, 20, 21, 22, 23, 24] hAq hk1 hFq ht hP1 hD1 rfl (by decide +kernel)
        have hP := hz9.1
        have hD := hz9.2
        refine lv_aload_n hx hb dX5_unlike_37 rfl (lv_at hl 0 rfl) ?_
        refine lv_iload_n hx hb dX5_unlike_38 rfl (lv_at hl 2 rfl) ?_
        refine g_topi (y := nI (nC v1)) hv_18 ?_
        refine lv_iload_n hx hb dX5_unlike_39 rfl (lv_at hl 3 rfl) ?_
        refine g_topi (y := nI (nC v2)) hv_8 ?_
        refine z_calll [0, 1, 2, 3, 4, 5, 6, 7, 8, 9, 10, 11, 12, 13, 14, 15, 16, 17, 18, 19, 20, 21, 22, 23] (v := m_X5_guiltyBits fet fso fmi fpa fki fmo fsz frd fct (nC v1) (nC v2)) (fun _ ⟨_, _, _, _, _, _⟩ h => h) (va_runV (As := [.int (nI (nC v1)), .int (nI (nC v2))]) (rest := [.long (m_X5_guiltyBits fet fso fmi fpa fki fmo fsz frd fct (nC v0) (nC v2))]) ⟨hx, hb, hml, hown, hts⟩ (c_X5_guiltyBits l G h0 tt rd nw th kp sh tu n1 n2 n3 n4 n5 n6 n7 n8 t1 t2 t3 t4 t5 t6 t7 t8 co en sk ct et jg pb lw tx him wr (nI jg) (nI pb) (nI lw) fc fe fet fso fmi fpa fki fmo fsz frd yt1_30 yt2_31 yt3_32 yt4_33 fki fmo yt7_34 frd fct ysk_35 (nC v1) (nC v2) H.size (by first | exact hj | assumption | omega) (by first | exact hp | assumption | omega) (by first | exact htn | assumption | omega) (by first | exact hc | assumption | omega) (by first | exact he | assumption | omega) (by first | exact hwx | assumption | omega) (by first | exact hjg | assumption | omega) (by first | exact hpb | assumption | omega)) (cwV 2 hts gX5_unlike_X5_guiltyBits rfl rfl rfl (by decide +kernel) ⟨Nat.le_of_ble_eq_true rfl, Nat.le_of_ble_eq_true rfl⟩) ⟨gPre_blind, va_recv (q := (RX5, TX5, 8)) hK hP (ci := 5) (q0 := 0) rfl rfl, fun U hU hW => gPre_of hU hW hK hP hD⟩ rfl rfl hl.1 rfl (lv_room (Nat.le_of_ble_eq_true rfl)) dX5_unlike_40 ⟨Nat.le_of_ble_eq_true rfl, Nat.le_of_ble_eq_true rfl⟩) hS hD hA rfl (fun u t H locs ht hvm hB hz1 hk1 hFq hAq hS => ?_)
        obtain ⟨yt1_40, yt2_41, yt3_42, yt4_43, yt7_44, ysk_45⟩ := u
        obtain ⟨hP1, hK1, hD1⟩ := hB
        have hz9 : gPD G A [zo5 h0 tt rd nw th kp sh tu him, zo0 nw tt n1 n2 n3 n4 n5 n6 n7 n8 (nI jg) (nI pb) (nI lw), zi G n2 4 fso, zi G n3 4 fmi, zi G n4 4 fpa, zi G n5 6 fki, zi G n6 6 fmo, zi G n7 6 fsz, zi G n8 6 frd, zo0 th tt t1 t2 t3 t4 t5 t6 t7 t8 (nI jg) (nI pb) (nI lw), zi G t1 6 yt1_40, zi G t2 4 yt2_41, zi G t3 4 yt3_42, zi G t4 4 yt4_43, zi G t5 6 fki, zi G t6 6 fmo, zi G t7 6 yt7_44, zi G t8 6 frd, zo3 tt co en sk wr (nI tx), zr G co 6 fc, zr G en 6 fe, zi G ct 160 fct, zi G et 3 (nF fet), zi G sk 32 ysk_45] H := zFill hP hD [0, 1, 2, 3, 4, 5, 6, 7, 8, 9, 10, 11, 12, 13, 14, 15, 16, 17, 18, 19, 20, 21, 22, 23] [1, 2, 3, 4, 5, 6, 7, 8, 9, 10, 11, 12, 13, 14, 15, 16, 17, 18, 19, 20, 21, 22, 23, 24] hAq hk1 hFq ht hP1 hD1 rfl (by decide +kernel)
        have hP := hz9.1
        have hD := hz9.2
        refine lv_lxor hx hb dX5_unlike_43 ?_
        refine z_calli [] (v := m_X5_leastBit ((m_X5_guiltyBits fet fso fmi fpa fki fmo fsz frd fct (nC v0) (nC v2)) ^^^ (m_X5_guiltyBits fet fso fmi fpa fki fmo fsz frd fct (nC v1) (nC v2)))) (fun _ _ h => h) (va_runS (As := [.long ((m_X5_guiltyBits fet fso fmi fpa fki fmo fsz frd fct (nC v0) (nC v2)) ^^^ (m_X5_guiltyBits fet fso fmi fpa fki fmo fsz frd fct (nC v1) (nC v2)))]) (rest := []) ⟨hx, hb, hml, hown, hts⟩ (c_X5_leastBit l G ((m_X5_guiltyBits fet fso fmi fpa fki fmo fsz frd fct (nC v0) (nC v2)) ^^^ (m_X5_guiltyBits fet fso fmi fpa fki fmo fsz frd fct (nC v1) (nC v2))) H.size) (va_cwS 1 hts gX5_unlike_X5_leastBit rfl rfl rfl (by decide +kernel) ⟨Nat.le_of_ble_eq_true rfl, Nat.le_of_ble_eq_true rfl⟩) ⟨gPre_blind, fun U hU hW => gPre_ofF [] hU hW hK hP hD (by decide +kernel) rfl⟩ rfl rfl hl.1 rfl (lv_room (Nat.le_of_ble_eq_true rfl)) dX5_unlike_44 ⟨Nat.le_of_ble_eq_true rfl, Nat.le_of_ble_eq_true rfl⟩) hS hD hA rfl (fun u t H locs ht hvm hB hz1 hk1 hFq hAq hS => ?_)
        obtain ⟨hP1, hK1, hD1⟩ := hB
        have hP := zKeep hP hD [] hAq hk1 ht hP1 rfl
        have q_48 : m_X5_unlike_th9 jg pb tj v0 v1 v2 = nI jg := by unfold m_X5_unlike_th9; rw [if_pos p_4, if_pos p_16, if_neg c_25]
        have q_49 : m_X5_unlike_th10 jg pb tb v0 v1 v2 = nI pb := by unfold m_X5_unlike_th10; rw [if_pos p_4, if_pos p_16, if_neg c_25]
        have q_50 : m_X5_unlike_th11 jg pb lw tl v0 v1 v2 = nI lw := by unfold m_X5_unlike_th11; rw [if_pos p_4, if_pos p_16, if_neg c_25]
        have hz9 : gPD G A [zo5 h0 tt rd nw th kp sh tu him, zo0 nw tt n1 n2 n3 n4 n5 n6 n7 n8 (nI jg) (nI pb) (nI lw), zi G n2 4 fso, zi G n3 4 fmi, zi G n4 4 fpa, zi G n5 6 fki, zi G n6 6 fmo, zi G n7 6 fsz, zi G n8 6 frd, zo0 th tt t1 t2 t3 t4 t5 t6 t7 t8 (m_X5_unlike_th9 jg pb tj v0 v1 v2) (m_X5_unlike_th10 jg pb tb v0 v1 v2) (m_X5_unlike_th11 jg pb lw tl v0 v1 v2), zi G t1 6 yt1_40, zi G t2 4 yt2_41, zi G t3 4 yt3_42, zi G t4 4 yt4_43, zi G t5 6 fki, zi G t6 6 fmo, zi G t7 6 yt7_44, zi G t8 6 frd, zo3 tt co en sk wr (nI tx), zr G co 6 fc, zr G en 6 fe, zi G ct 160 fct, zi G et 3 (nF fet), zi G sk 32 ysk_45] H := ⟨by rw [q_48, q_49, q_50]; exact hP, by rw [q_48, q_49, q_50]; exact hD⟩
        have hP9 := hz9.1
        have hD9 := hz9.2
        have hpost : (fun (r : Int32) (u : (Nat → Int32) × (Nat → Int32) × (Nat → Int32) × (Nat → Int32) × (Nat → Int32) × (Nat → Int32) × (Nat → Int32) × (Nat → Int32) × (Nat → Int32)) => match u with | (yt1, yt2, yt3, yt4, yt5, yt6, yt7, yt8, ysk) => r = m_X5_unlike jg pb fet fso fmi fpa fki fmo fsz frd fct v0 v1 v2) (m_X5_leastBit ((m_X5_guiltyBits fet fso fmi fpa fki fmo fsz frd fct (nC v0) (nC v2)) ^^^ (m_X5_guiltyBits fet fso fmi fpa fki fmo fsz frd fct (nC v1) (nC v2)))) (yt1_40, yt2_41, yt3_42, yt4_43, fki, fmo, yt7_44, frd, ysk_45) := (show m_X5_unlike jg pb fet fso fmi fpa fki fmo fsz frd fct v0 v1 v2 = (m_X5_leastBit ((m_X5_guiltyBits fet fso fmi fpa fki fmo fsz frd fct (nC v0) (nC v2)) ^^^ (m_X5_guiltyBits fet fso fmi fpa fki fmo fsz frd fct (nC v1) (nC v2)))) from by unfold m_X5_unlike; rw [if_pos p_4, if_pos p_16, if_neg c_25]).symm
        exact W.iret (v := (m_X5_leastBit ((m_X5_guiltyBits fet fso fmi fpa fki fmo fsz frd fct (nC v0) (nC v2)) ^^^ (m_X5_guiltyBits fet fso fmi fpa fki fmo fsz frd fct (nC v1) (nC v2))))) hx hb hr (fun t ht hW => ⟨⟨(m_X5_leastBit ((m_X5_guiltyBits fet fso fmi fpa fki fmo fsz frd fct (nC v0) (nC v2)) ^^^ (m_X5_guiltyBits fet fso fmi fpa fki fmo fsz frd fct (nC v1) (nC v2)))), (yt1_40, yt2_41, yt3_42, yt4_43, fki, fmo, yt7_44, frd, ysk_45), rfl, hpost, by rw [ht]; exact hP9, va_K.moved hW.alike hK, hD9⟩, hS.F ht⟩) hS.2.2 dX5_unlike_47
      · skip
        have c_25N : (nC v0) = (nC v1) := nI_eq1 (a := (nC v0)) (b := (nC v1)) (by omega) (by omega) c_25
        refine lv_bipush (v := -5) hx hb dX5_unlike_28 (by decide +kernel) ?_
        have q_51 : m_X5_unlike_th9 jg pb tj v0 v1 v2 = tj := by unfold m_X5_unlike_th9; rw [if_pos p_4, if_pos p_16, if_pos c_25]
        have q_52 : m_X5_unlike_th10 jg pb tb v0 v1 v2 = tb := by unfold m_X5_unlike_th10; rw [if_pos p_4, if_pos p_16, if_pos c_25]
        have q_53 : m_X5_unlike_th11 jg pb lw tl v0 v1 v2 = tl := by unfold m_X5_unlike_th11; rw [if_pos p_4, if_pos p_16, if_pos c_25]
        have hz9 : gPD G A [zo5 h0 tt rd nw th kp sh tu him, zo0 nw tt n1 n2 n3 n4 n5 n6 n7 n8 (nI jg) (nI pb) (nI lw), zi G n2 4 fso, zi G n3 4 fmi, zi G n4 4 fpa, zi G n5 6 fki, zi G n6 6 fmo, zi G n7 6 fsz, zi G n8 6 frd, zo0 th tt t1 t2 t3 t4 t5 t6 t7 t8 (m_X5_unlike_th9 jg pb tj v0 v1 v2) (m_X5_unlike_th10 jg pb tb v0 v1 v2) (m_X5_unlike_th11 jg pb lw tl v0 v1 v2), zi G t1 6 unm, zi G t2 4 uso, zi G t3 4 umi, zi G t4 4 upa, zi G t5 6 uki, zi G t6 6 umo, zi G t7 6 usz, zi G t8 6 urd, zo3 tt co en sk wr (nI tx), zr G co 6 fc, zr G en 6 fe, zi G ct 160 fct, zi G et 3 (nF fet), zi G sk 32 fsk] H := ⟨by rw [q_51, q_52, q_53]; exact hP, by rw [q_51, q_52, q_53]; exact hD⟩
        have hP9 := hz9.1
        have hD9 := hz9.2
        have hpost : (fun (r : Int32) (u : (Nat → Int32) × (Nat → Int32) × (Nat → Int32) × (Nat → Int32) × (Nat → Int32) × (Nat → Int32) × (Nat → Int32) × (Nat → Int32) × (Nat → Int32)) => match u with | (yt1, yt2, yt3, yt4, yt5, yt6, yt7, yt8, ysk) => r = m_X5_unlike jg pb fet fso fmi fpa fki fmo fsz frd fct v0 v1 v2) (-5) (unm, uso, umi, upa, uki, umo, usz, urd, fsk) := (show m_X5_unlike jg pb fet fso fmi fpa fki fmo fsz frd fct v0 v1 v2 = (-5) from by unfold m_X5_unlike; rw [if_pos p_4, if_pos p_16, if_pos c_25]).symm
        exact W.iret (v := (-5)) hx hb hr (fun t ht hW => ⟨⟨(-5), (unm, uso, umi, upa, uki, umo, usz, urd, fsk), rfl, hpost, by rw [ht]; exact hP9, va_K.moved hW.alike hK, hD9⟩, hS.F ht⟩) hS.2.2 dX5_unlike_30
noncomputable def p_X5_hardest_28 (pb : Nat) (fet : Nat → Nat) (fso : Nat → Int32) (fmi : Nat → Int32) (fpa : Nat → Int32) (fki : Nat → Int32) (fmo : Nat → Int32) (fsz : Nat → Int32) (frd : Nat → Int32) (fct : Nat → Int32) (v0 : Int32) : Nat → Nat → Int32 → Int32 → Nat × Int32 × Int32
  | 0, j28, ha, mo9 => (j28, ha, mo9)
  | q9 + 1, j28, ha, mo9 => if (m_X5_guiltyOfAll pb fet fso fmi fpa fki fmo fsz frd fct j28 (nC v0)) ≤ mo9 then p_X5_hardest_28 pb fet fso fmi fpa fki fmo fsz frd fct v0 q9 (j28 + 1) ha mo9 else p_X5_hardest_28 pb fet fso fmi fpa fki fmo fsz frd fct v0 q9 (j28 + 1) (nI j28) (m_X5_guiltyOfAll pb fet fso fmi fpa fki fmo fsz frd fct j28 (nC v0))
noncomputable def g_X5_hardest_28 (jg : Nat) (pb : Nat) (fet : Nat → Nat) (fso : Nat → Int32) (fmi : Nat → Int32) (fpa : Nat → Int32) (fki : Nat → Int32) (fmo : Nat → Int32) (fsz : Nat → Int32) (frd : Nat → Int32) (fct : Nat → Int32) (v0 : Int32) : Nat × Int32 × Int32 := p_X5_hardest_28 pb fet fso fmi fpa fki fmo fsz frd fct v0 (jg - 0) 0 (-1) (-1)
noncomputable def m_X5_hardest (jg : Nat) (pb : Nat) (fet : Nat → Nat) (fso : Nat → Int32) (fmi : Nat → Int32) (fpa : Nat → Int32) (fki : Nat → Int32) (fmo : Nat → Int32) (fsz : Nat → Int32) (frd : Nat → Int32) (fct : Nat → Int32) (v0 : Int32) (v1 : Int32) : Int32 := if 0 ≤ v0 ∧ v0 ≤ 60 then (if 0 ≤ v1 ∧ v1 ≤ 1 then (if (nI (nC v1)) = 0 then ((g_X5_hardest_28 jg pb fet fso fmi fpa fki fmo fsz frd fct v0).2.1) else ((g_X5_hardest_28 jg pb fet fso fmi fpa fki fmo fsz frd fct v0).2.2)) else -2) else -2
abbrev q_X5_hardest (G : gG) (h0 tt rd nw th kp sh tu n1 n2 n3 n4 n5 n6 n7 n8 t1 t2 t3 t4 t5 t6 t7 t8 co en sk ct et : Nat) (jg : Nat) (pb : Nat) (lw : Nat) (tx : Nat) (him : Int32) (wr : Int32) (tj : Int32) (tb : Int32) (tl : Int32) (fc : Nat → Option Nat) (fe : Nat → Option Nat) (fet : Nat → Nat) (fso : Nat → Int32) (fmi : Nat → Int32) (fpa : Nat → Int32) (fki : Nat → Int32) (fmo : Nat → Int32) (fsz : Nat → Int32) (frd : Nat → Int32) (unm : Nat → Int32) (uso : Nat → Int32) (umi : Nat → Int32) (upa : Nat → Int32) (uki : Nat → Int32) (umo : Nat → Int32) (usz : Nat → Int32) (urd : Nat → Int32) (fct : Nat → Int32) (fsk : Nat → Int32) (v0 : Int32) (v1 : Int32) (A : Nat → Prop) : Array Value → State → Outcome → State → Prop := va_Qi (fun (r : Int32) (u : Int32 × Int32 × Int32 × (Nat → Int32) × (Nat → Int32) × (Nat → Int32) × (Nat → Int32) × (Nat → Int32) × (Nat → Int32) × (Nat → Int32) × (Nat → Int32) × (Nat → Int32)) => match u with | (zj9, zb9, zl9, yt1, yt2, yt3, yt4, yt5, yt6, yt7, yt8, ysk) => r = m_X5_hardest jg pb fet fso fmi fpa fki fmo fsz frd fct v0 v1) (fun (u : Int32 × Int32 × Int32 × (Nat → Int32) × (Nat → Int32) × (Nat → Int32) × (Nat → Int32) × (Nat → Int32) × (Nat → Int32) × (Nat → Int32) × (Nat → Int32) × (Nat → Int32)) t => match u with | (zj9, zb9, zl9, yt1, yt2, yt3, yt4, yt5, yt6, yt7, yt8, ysk) => va_P G.1 vwCl [zo5 h0 tt rd nw th kp sh tu him, zo0 nw tt n1 n2 n3 n4 n5 n6 n7 n8 (nI jg) (nI pb) (nI lw), zi G n2 4 fso, zi G n3 4 fmi, zi G n4 4 fpa, zi G n5 6 fki, zi G n6 6 fmo, zi G n7 6 fsz, zi G n8 6 frd, zo0 th tt t1 t2 t3 t4 t5 t6 t7 t8 zj9 zb9 zl9, zi G t1 6 yt1, zi G t2 4 yt2, zi G t3 4 yt3, zi G t4 4 yt4, zi G t5 6 yt5, zi G t6 6 yt6, zi G t7 6 yt7, zi G t8 6 yt8, zo3 tt co en sk wr (nI tx), zr G co 6 fc, zr G en 6 fe, zi G ct 160 fct, zi G et 3 (nF fet), zi G sk 32 ysk] t.heap ∧ gK G t ∧ va_D A [zo5 h0 tt rd nw th kp sh tu him, zo0 nw tt n1 n2 n3 n4 n5 n6 n7 n8 (nI jg) (nI pb) (nI lw), zi G n2 4 fso, zi G n3 4 fmi, zi G n4 4 fpa, zi G n5 6 fki, zi G n6 6 fmo, zi G n7 6 fsz, zi G n8 6 frd, zo0 th tt t1 t2 t3 t4 t5 t6 t7 t8 zj9 zb9 zl9, zi G t1 6 yt1, zi G t2 4 yt2, zi G t3 4 yt3, zi G t4 4 yt4, zi G t5 6 yt5, zi G t6 6 yt6, zi G t7 6 yt7, zi G t8 6 yt8, zo3 tt co en sk wr (nI tx), zr G co 6 fc, zr G en 6 fe, zi G ct 160 fct, zi G et 3 (nF fet), zi G sk 32 ysk]) A
set_option maxHeartbeats 4000000 in
set_option maxRecDepth 100000 in
theorem c_X5_hardest (l : Launch) (G : gG) (h0 tt rd nw th kp sh tu n1 n2 n3 n4 n5 n6 n7 n8 t1 t2 t3 t4 t5 t6 t7 t8 co en sk ct et : Nat) (jg : Nat) (pb : Nat) (lw : Nat) (tx : Nat) (him : Int32) (wr : Int32) (tj : Int32) (tb : Int32) (tl : Int32) (fc : Nat → Option Nat) (fe : Nat → Option Nat) (fet : Nat → Nat) (fso : Nat → Int32) (fmi : Nat → Int32) (fpa : Nat → Int32) (fki : Nat → Int32) (fmo : Nat → Int32) (fsz : Nat → Int32) (frd : Nat → Int32) (unm : Nat → Int32) (uso : Nat → Int32) (umi : Nat → Int32) (upa : Nat → Int32) (uki : Nat → Int32) (umo : Nat → Int32) (usz : Nat → Int32) (urd : Nat → Int32) (fct : Nat → Int32) (fsk : Nat → Int32) (v0 : Int32) (v1 : Int32) (sz : Nat) (htn : lw < tx ∧ tx ≤ 6) (hc : fc lw = some ct) (he : fe lw = some et) (hwx : mWx fct fet) (hjg : jg ≤ 4) (hpb : pb ≤ 6) : Met l yX5_hardest wsX5_hardest ({ frames := 6, cells := 0, slots := 0, locals := 465 }) (gPre G [.ref h0, .int v0, .int v1] [zo5 h0 tt rd nw th kp sh tu him, zo0 nw tt n1 n2 n3 n4 n5 n6 n7 n8 (nI jg) (nI pb) (nI lw), zi G n2 4 fso, zi G n3 4 fmi, zi G n4 4 fpa, zi G n5 6 fki, zi G n6 6 fmo, zi G n7 6 fsz, zi G n8 6 frd, zo0 th tt t1 t2 t3 t4 t5 t6 t7 t8 tj tb tl, zi G t1 6 unm, zi G t2 4 uso, zi G t3 4 umi, zi G t4 4 upa, zi G t5 6 uki, zi G t6 6 umo, zi G t7 6 usz, zi G t8 6 urd, zo3 tt co en sk wr (nI tx), zr G co 6 fc, zr G en 6 fe, zi G ct 160 fct, zi G et 3 (nF fet), zi G sk 32 fsk] sz) (q_X5_hardest G h0 tt rd nw th kp sh tu n1 n2 n3 n4 n5 n6 n7 n8 t1 t2 t3 t4 t5 t6 t7 t8 co en sk ct et jg pb lw tx him wr tj tb tl fc fe fet fso fmi fpa fki fmo fsz frd unm uso umi upa uki umo usz urd fct fsk v0 v1 (va_A [zo5 h0 tt rd nw th kp sh tu him, zo0 nw tt n1 n2 n3 n4 n5 n6 n7 n8 (nI jg) (nI pb) (nI lw), zi G n2 4 fso, zi G n3 4 fmi, zi G n4 4 fpa, zi G n5 6 fki, zi G n6 6 fmo, zi G n7 6 fsz, zi G n8 6 frd, zo0 th tt t1 t2 t3 t4 t5 t6 t7 t8 tj tb tl, zi G t1 6 unm, zi G t2 4 uso, zi G t3 4 umi, zi G t4 4 upa, zi G t5 6 uki, zi G t6 6 umo, zi G t7 6 usz, zi G t8 6 urd, zo3 tt co en sk wr (nI tx), zr G co 6 fc, zr G en 6 fe, zi G ct 160 fct, zi G et 3 (nF fet), zi G sk 32 fsk] sz)) 0 0 (va_A [zo5 h0 tt rd nw th kp sh tu him, zo0 nw tt n1 n2 n3 n4 n5 n6 n7 n8 (nI jg) (nI pb) (nI lw), zi G n2 4 fso, zi G n3 4 fmi, zi G n4 4 fpa, zi G n5 6 fki, zi G n6 6 fmo, zi G n7 6 fsz, zi G n8 6 frd, zo0 th tt t1 t2 t3 t4 t5 t6 t7 t8 tj tb tl, zi G t1 6 unm, zi G t2 4 uso, zi G t3 4 umi, zi G t4 4 upa, zi G t5 6 uki, zi G t6 6 umo, zi G t7 6 usz, zi G t8 6 urd, zo3 tt co en sk wr (nI tx), zr G co 6 fc, zr G en 6 fe, zi G ct 160 fct, zi G et 3 (nF fet), zi G sk 32 fsk] sz) := by
  refine Met.ofW (cc := cX5_hardest) (maxL := 7) (ret := (some .int)) (by decide +kernel) rfl ?_
  intro p e s m args below meth c s₁ B hml hv
  obtain ⟨rfl, hsz, hP, hK, hD0⟩ := hv
  have hx := B.exec
  have hb := B.bytes
  have hr := B.returns
  have hts := atoms_spec (ws := wsX5_hardest) B.pre
  have hown : s.vm.findClass RX5 = some m.cls := findClass_of_methodNamed B.named
  have hlocks := B.notSynchronized
  subst hsz
  have hD := hD0.self (sz := s.heap.size)
  generalize hAe : va_A [zo5 h0 tt rd nw th kp sh tu him, zo0 nw tt n1 n2 n3 n4 n5 n6 n7 n8 (nI jg) (nI pb) (nI lw), zi G n2 4 fso, zi G n3 4 fmi, zi G n4 4 fpa, zi G n5 6 fki, zi G n6 6 fmo, zi G n7 6 fsz, zi G n8 6 frd, zo0 th tt t1 t2 t3 t4 t5 t6 t7 t8 tj tb tl, zi G t1 6 unm, zi G t2 4 uso, zi G t3 4 umi, zi G t4 4 upa, zi G t5 6 uki, zi G t6 6 umo, zi G t7 6 usz, zi G t8 6 urd, zo3 tt co en sk wr (nI tx), zr G co 6 fc, zr G en 6 fe, zi G ct 160 fct, zi G et 3 (nF fet), zi G sk 32 fsk] s.heap.size = A at hD ⊢
  have hA : ∀ q : Nat, s.heap.size ≤ q → A q := fun q h => by rw [← hAe]; exact Or.inr h
  have hS : va_S A s.heap s.heap [] := va_S.rf
  have hz9 : gPD G A [zo5 h0 tt rd nw th kp sh tu him, zo0 nw tt n1 n2 n3 n4 n5 n6 n7 n8 (nI jg) (nI pb) (nI lw), zi G n2 4 fso, zi G n3 4 fmi, zi G n4 4 fpa, zi G n5 6 fki, zi G n6 6 fmo, zi G n7 6 fsz, zi G n8 6 frd, zo0 th tt t1 t2 t3 t4 t5 t6 t7 t8 tj tb tl, zi G t1 6 unm, zi G t2 4 uso, zi G t3 4 umi, zi G t4 4 upa, zi G t5 6 uki, zi G t6 6 umo, zi G t7 6 usz, zi G t8 6 urd, zo3 tt co en sk wr (nI tx), zr G co 6 fc, zr G en 6 fe, zi G ct 160 fct, zi G et 3 (nF fet), zi G sk 32 fsk] s.heap := ⟨hP, hD⟩
  have hP := hz9.1
  have hD := hz9.2
  have hl := lv_entry ([.ref h0, .int v0, .int v1]) (n := 7) (Nat.le_of_ble_eq_true rfl)
  rw [lg_entry_eq]
  generalize (lg_sl ([.ref h0, .int v0, .int v1]) ++ List.replicate (7 - (lg_sl ([.ref h0, .int v0, .int v1])).length) Slot.unset).toArray = ls at hl ⊢
  have hl : lv_has ls 7 [zR 0 h0, zI 1 v0, zI 2 v1] := hl
  have kf28 := hts (.fieldLink RX5 28 "PebbleInShoe" "now" "LPebbleInShoe$Court;") (by decide +kernel)
  have hiX5 := (by decide +kernel : ∀ w ∈ wsX50, w ∈ wsX5_hardest)
  have kf75 := hts (.fieldLink RX5 75 "PebbleInShoe$Court" "judges" "I") (by decide +kernel)
  have hiX0 := (by decide +kernel : ∀ w ∈ wsX00, w ∈ wsX5_hardest)
  refine lv_iload_n hx hb dX5_hardest_0 rfl (lv_at hl 1 rfl) ?_
  refine lv_bipush (v := 60) hx hb dX5_hardest_1 (by decide +kernel) ?_
  refine z_calli [] (v := bz (decide (0 ≤ v0 ∧ v0 ≤ 60))) (fun _ _ h => h) (va_runS (As := [.int v0, .int 60]) (rest := []) ⟨hx, hb, hml, hown, hts⟩ (c_X5_within_g l G v0 60 s.heap.size) (va_cwS 2 hts gX5_hardest_X5_within rfl rfl rfl (by decide +kernel) ⟨Nat.le_of_ble_eq_true rfl, Nat.le_of_ble_eq_true rfl⟩) ⟨gPre_blind, fun U hU hW => gPre_ofF [] hU hW hK hP hD (by decide +kernel) rfl⟩ rfl rfl hl.1 rfl (lv_room (Nat.le_of_ble_eq_true rfl)) dX5_hardest_3 ⟨Nat.le_of_ble_eq_true rfl, Nat.le_of_ble_eq_true rfl⟩) hS hD hA rfl (fun u t H locs ht hvm hB hz1 hk1 hFq hAq hS => ?_)
  obtain ⟨hP1, hK1, hD1⟩ := hB
  have hP := zKeep hP hD [] hAq hk1 ht hP1 rfl
  refine lv_if_eq (tgt := 17) hx hb dX5_hardest_6 (by decide +kernel) (fun c_3 => ?_) (fun c_3 => ?_)
  · skip
    have n_5 : ¬ (0 ≤ v0 ∧ v0 ≤ 60) := of_decide_eq_false (bz_eq rfl c_3)
    refine lv_bipush (v := -2) hx hb dX5_hardest_17 (by decide +kernel) ?_
    have hpost : (fun (r : Int32) (u : Int32 × Int32 × Int32 × (Nat → Int32) × (Nat → Int32) × (Nat → Int32) × (Nat → Int32) × (Nat → Int32) × (Nat → Int32) × (Nat → Int32) × (Nat → Int32) × (Nat → Int32)) => match u with | (zj9, zb9, zl9, yt1, yt2, yt3, yt4, yt5, yt6, yt7, yt8, ysk) => r = m_X5_hardest jg pb fet fso fmi fpa fki fmo fsz frd fct v0 v1) (-2) (tj, tb, tl, unm, uso, umi, upa, uki, umo, usz, urd, fsk) := (show m_X5_hardest jg pb fet fso fmi fpa fki fmo fsz frd fct v0 v1 = (-2) from by unfold m_X5_hardest; rw [if_neg n_5]).symm
    exact W.iret (v := (-2)) hx hb hr (fun t ht hW => ⟨⟨(-2), (tj, tb, tl, unm, uso, umi, upa, uki, umo, usz, urd, fsk), rfl, hpost, by rw [ht]; exact hP, va_K.moved hW.alike hK, hD⟩, hS.F ht⟩) hS.2.2 dX5_hardest_19
  · skip
    have p_4 : 0 ≤ v0 ∧ v0 ≤ 60 := of_decide_eq_true (bz_ne rfl c_3)
    have hv_6 : v0 = nI (nC v0) := nC_eq p_4.1
    have hk_7 : nC v0 ≤ 60 := nC_le (n := 60) (by omega) p_4
    refine lv_iload_n hx hb dX5_hardest_9 rfl (lv_at hl 2 rfl) ?_
    refine lv_iconst (v := 1) hx hb dX5_hardest_10 (by decide +kernel) ?_
    refine z_calli [] (v := bz (decide (0 ≤ v1 ∧ v1 ≤ 1))) (fun _ _ h => h) (va_runS (As := [.int v1, .int 1]) (rest := []) ⟨hx, hb, hml, hown, hts⟩ (c_X5_within_g l G v1 1 H.size) (va_cwS 2 hts gX5_hardest_X5_within rfl rfl rfl (by decide +kernel) ⟨Nat.le_of_ble_eq_true rfl, Nat.le_of_ble_eq_true rfl⟩) ⟨gPre_blind, fun U hU hW => gPre_ofF [] hU hW hK hP hD (by decide +kernel) rfl⟩ rfl rfl hl.1 rfl (lv_room (Nat.le_of_ble_eq_true rfl)) dX5_hardest_11 ⟨Nat.le_of_ble_eq_true rfl, Nat.le_of_ble_eq_true rfl⟩) hS hD hA rfl (fun u t H locs ht hvm hB hz1 hk1 hFq hAq hS => ?_)
    obtain ⟨hP1, hK1, hD1⟩ := hB
    have hP := zKeep hP hD [] hAq hk1 ht hP1 rfl
    refine lv_if_ne (tgt := 20) hx hb dX5_hardest_14 (by decide +kernel) (fun c_10 => ?_) (fun c_10 => ?_)
    · skip
      have p_11 : 0 ≤ v1 ∧ v1 ≤ 1 := of_decide_eq_true (bz_ne rfl c_10)
      have hv_13 : v1 = nI (nC v1) := nC_eq p_11.1
      have hk_14 : nC v1 ≤ 1 := nC_le (n := 1) (by omega) p_11
      refine lv_iconst (v := -1) hx hb dX5_hardest_20 (by decide +kernel) ?_
      refine lv_istore_n (lv' := [zI 3 (-1), zR 0 h0, zI 1 v0, zI 2 v1]) hx hb dX5_hardest_21 rfl hl (by decide +kernel) rfl (fun ls hl => ?_)
      refine lv_iconst (v := -1) hx hb dX5_hardest_22 (by decide +kernel) ?_
      refine lv_istore (lv' := [zI 4 (-1), zI 3 (-1), zR 0 h0, zI 1 v0, zI 2 v1]) hx hb dX5_hardest_23 hl (by decide +kernel) rfl (fun ls hl => ?_)
      refine lv_iconst (v := 0) hx hb dX5_hardest_25 (by decide +kernel) ?_
      refine lv_istore (lv' := [zI 5 0, zI 4 (-1), zI 3 (-1), zR 0 h0, zI 1 v0, zI 2 v1]) hx hb dX5_hardest_26 hl (by decide +kernel) rfl (fun ls hl => ?_)
      have loop_28 : ∀ (n9 : Nat) (j28 : Nat) (ha : Int32) (mo9 : Int32) (x28t1 : Nat → Int32) (x28sk : Nat → Int32) (x28t2 : Nat → Int32) (x28t3 : Nat → Int32) (x28t4 : Nat → Int32) (x28t5 : Nat → Int32) (x28t6 : Nat → Int32) (x28t7 : Nat → Int32) (x28t8 : Nat → Int32) (zj9l : Int32) (zb9l : Int32) (zl9l : Int32), (j28 ≤ jg) → (p_X5_hardest_28 pb fet fso fmi fpa fki fmo fsz frd fct v0 (jg - j28) j28 ha mo9 = (g_X5_hardest_28 jg pb fet fso fmi fpa fki fmo fsz frd fct v0)) → (jg - j28) < n9 → ∀ (H : Heap) (locs : List Loc), va_P G.1 vwCl [zo5 h0 tt rd nw th kp sh tu him, zo0 nw tt n1 n2 n3 n4 n5 n6 n7 n8 (nI jg) (nI pb) (nI lw), zi G n2 4 fso, zi G n3 4 fmi, zi G n4 4 fpa, zi G n5 6 fki, zi G n6 6 fmo, zi G n7 6 fsz, zi G n8 6 frd, zo0 th tt t1 t2 t3 t4 t5 t6 t7 t8 zj9l zb9l zl9l, zi G t1 6 x28t1, zi G t2 4 x28t2, zi G t3 4 x28t3, zi G t4 4 x28t4, zi G t5 6 x28t5, zi G t6 6 x28t6, zi G t7 6 x28t7, zi G t8 6 x28t8, zo3 tt co en sk wr (nI tx), zr G co 6 fc, zr G en 6 fe, zi G ct 160 fct, zi G et 3 (nF fet), zi G sk 32 x28sk] H → va_D A [zo5 h0 tt rd nw th kp sh tu him, zo0 nw tt n1 n2 n3 n4 n5 n6 n7 n8 (nI jg) (nI pb) (nI lw), zi G n2 4 fso, zi G n3 4 fmi, zi G n4 4 fpa, zi G n5 6 fki, zi G n6 6 fmo, zi G n7 6 fsz, zi G n8 6 frd, zo0 th tt t1 t2 t3 t4 t5 t6 t7 t8 zj9l zb9l zl9l, zi G t1 6 x28t1, zi G t2 4 x28t2, zi G t3 4 x28t3, zi G t4 4 x28t4, zi G t5 6 x28t5, zi G t6 6 x28t6, zi G t7 6 x28t7, zi G t8 6 x28t8, zo3 tt co en sk wr (nI tx), zr G co 6 fc, zr G en 6 fe, zi G ct 160 fct, zi G et 3 (nF fet), zi G sk 32 x28sk] → va_S A s.heap H locs → ∀ ls : Array Slot, lv_has ls 7 [zI 5 (nI j28), zI 4 mo9, zI 3 ha, zR 0 h0, zI 1 v0, zI 2 v1] → W p l e (headSpec wsX5_hardest ({ frames := 6, cells := 0, slots := 0, locals := 465 })).room s m ([.ref h0, .int v0, .int v1] : List Value).toArray below meth c H locs 0 0 (MQ below (q_X5_hardest G h0 tt rd nw th kp sh tu n1 n2 n3 n4 n5 n6 n7 n8 t1 t2 t3 t4 t5 t6 t7 t8 co en sk ct et jg pb lw tx him wr tj tb tl fc fe fet fso fmi fpa fki fmo fsz frd unm uso umi upa uki umo usz urd fct fsk v0 v1 A) ([.ref h0, .int v0, .int v1] : List Value).toArray s 0 0 A) (F0 m 28 ls []) := by
        intro n9
        induction n9 with
        | zero => intro j28 ha mo9 x28t1 x28sk x28t2 x28t3 x28t4 x28t5 x28t6 x28t7 x28t8 zj9l zb9l zl9l hj28 R28 hm9_28; exact absurd hm9_28 (Nat.not_lt_zero _)
        | succ n9 ih9_28 =>
          intro j28 ha mo9 x28t1 x28sk x28t2 x28t3 x28t4 x28t5 x28t6 x28t7 x28t8 zj9l zb9l zl9l hj28 R28 hm9_28 H locs hP hD hS ls hl
          refine lv_iload hx hb dX5_hardest_28 (lv_at hl 0 rfl) ?_
          refine g_aget (D := G.1) (ci := 5) (v := .ref nw) (C := RX5) (T := TX5) (N := 8) hx hb dX5_hardest_30 rfl (lv_at hl 3 rfl) hts hiX5 hown hK hP 0 rfl rfl 2 (by decide +kernel) kf28 (fun _ h9 => h9) rfl dX5_hardest_31 ?_
          refine va_get (D := G.1) (ci := 0) (v := .int (nI jg)) (C := RX0) (T := TX0) (N := 12) hx hb hts hiX0 hown hK hP 1 rfl rfl 9 (by decide +kernel) kf75 (fun _ h9 => h9) rfl dX5_hardest_34 ?_
          refine lv_icmp_ge (tgt := 69) hx hb dX5_hardest_37 (by decide +kernel) (fun c_15 => ?_) (fun c_15 => ?_)
          · skip
            have c_15N : jg ≤ j28 := nI_le1 (a := jg) (b := j28) (by omega) (by omega) c_15
            have hF28 : (g_X5_hardest_28 jg pb fet fso fmi fpa fki fmo fsz frd fct v0) = (j28, ha, mo9) := by rw [← R28, show jg - j28 = 0 by omega]; rfl
            have hE28_0 : j28 = ((g_X5_hardest_28 jg pb fet fso fmi fpa fki fmo fsz frd fct v0).1) := by rw [hF28]
            have hE28_1 : ha = ((g_X5_hardest_28 jg pb fet fso fmi fpa fki fmo fsz frd fct v0).2.1) := by rw [hF28]
            have hE28_2 : mo9 = ((g_X5_hardest_28 jg pb fet fso fmi fpa fki fmo fsz frd fct v0).2.2) := by rw [hF28]
            clear hF28 R28
            subst hE28_0
            subst hE28_1
            subst hE28_2
            refine lv_iload_n hx hb dX5_hardest_69 rfl (lv_at hl 5 rfl) ?_
            refine g_topi (y := nI (nC v1)) hv_13 ?_
            refine lv_if_ne (tgt := 77) hx hb dX5_hardest_70 (by decide +kernel) (fun c_17 => ?_) (fun c_17 => ?_)
            · skip
              have c_17N : ¬ (nC v1) = 0 := nI_eq0 (a := (nC v1)) (b := 0) (by omega) (by omega) c_17
              refine lv_iload hx hb dX5_hardest_77 (lv_at hl 1 rfl) ?_
              have hpost : (fun (r : Int32) (u : Int32 × Int32 × Int32 × (Nat → Int32) × (Nat → Int32) × (Nat → Int32) × (Nat → Int32) × (Nat → Int32) × (Nat → Int32) × (Nat → Int32) × (Nat → Int32) × (Nat → Int32)) => match u with | (zj9, zb9, zl9, yt1, yt2, yt3, yt4, yt5, yt6, yt7, yt8, ysk) => r = m_X5_hardest jg pb fet fso fmi fpa fki fmo fsz frd fct v0 v1) ((g_X5_hardest_28 jg pb fet fso fmi fpa fki fmo fsz frd fct v0).2.2) (zj9l, zb9l, zl9l, x28t1, x28t2, x28t3, x28t4, x28t5, x28t6, x28t7, x28t8, x28sk) := (show m_X5_hardest jg pb fet fso fmi fpa fki fmo fsz frd fct v0 v1 = ((g_X5_hardest_28 jg pb fet fso fmi fpa fki fmo fsz frd fct v0).2.2) from by unfold m_X5_hardest; rw [if_pos p_4, if_pos p_11, if_neg c_17]).symm
              exact W.iret (v := ((g_X5_hardest_28 jg pb fet fso fmi fpa fki fmo fsz frd fct v0).2.2)) hx hb hr (fun t ht hW => ⟨⟨((g_X5_hardest_28 jg pb fet fso fmi fpa fki fmo fsz frd fct v0).2.2), (zj9l, zb9l, zl9l, x28t1, x28t2, x28t3, x28t4, x28t5, x28t6, x28t7, x28t8, x28sk), rfl, hpost, by rw [ht]; exact hP, va_K.moved hW.alike hK, hD⟩, hS.F ht⟩) hS.2.2 dX5_hardest_79
            · skip
              have c_17N : (nC v1) = 0 := nI_eq1 (a := (nC v1)) (b := 0) (by omega) (by omega) c_17
              refine lv_iload_n hx hb dX5_hardest_73 rfl (lv_at hl 2 rfl) ?_
              refine lv_goto (tgt := 79) hx hb dX5_hardest_74 (by decide +kernel) ?_
              have hpost : (fun (r : Int32) (u : Int32 × Int32 × Int32 × (Nat → Int32) × (Nat → Int32) × (Nat → Int32) × (Nat → Int32) × (Nat → Int32) × (Nat → Int32) × (Nat → Int32) × (Nat → Int32) × (Nat → Int32)) => match u with | (zj9, zb9, zl9, yt1, yt2, yt3, yt4, yt5, yt6, yt7, yt8, ysk) => r = m_X5_hardest jg pb fet fso fmi fpa fki fmo fsz frd fct v0 v1) ((g_X5_hardest_28 jg pb fet fso fmi fpa fki fmo fsz frd fct v0).2.1) (zj9l, zb9l, zl9l, x28t1, x28t2, x28t3, x28t4, x28t5, x28t6, x28t7, x28t8, x28sk) := (show m_X5_hardest jg pb fet fso fmi fpa fki fmo fsz frd fct v0 v1 = ((g_X5_hardest_28 jg pb fet fso fmi fpa fki fmo fsz frd fct v0).2.1) from by unfold m_X5_hardest; rw [if_pos p_4, if_pos p_11, if_pos c_17]).symm
              exact W.iret (v := ((g_X5_hardest_28 jg pb fet fso fmi fpa fki fmo fsz frd fct v0).2.1)) hx hb hr (fun t ht hW => ⟨⟨((g_X5_hardest_28 jg pb fet fso fmi fpa fki fmo fsz frd fct v0).2.1), (zj9l, zb9l, zl9l, x28t1, x28t2, x28t3, x28t4, x28t5, x28t6, x28t7, x28t8, x28sk), rfl, hpost, by rw [ht]; exact hP, va_K.moved hW.alike hK, hD⟩, hS.F ht⟩) hS.2.2 dX5_hardest_79
          · skip
            have c_15N : j28 < jg := nI_le0 (a := jg) (b := j28) (by omega) (by omega) c_15
            refine lv_aload_n hx hb dX5_hardest_40 rfl (lv_at hl 3 rfl) ?_
            refine lv_iload hx hb dX5_hardest_41 (lv_at hl 0 rfl) ?_
            refine lv_iload_n hx hb dX5_hardest_43 rfl (lv_at hl 4 rfl) ?_
            refine g_topi (y := nI (nC v0)) hv_6 ?_
            refine z_calli [0, 1, 2, 3, 4, 5, 6, 7, 8, 9, 10, 11, 12, 13, 14, 15, 16, 17, 18, 19, 20, 21, 22, 23] (v := m_X5_guiltyOfAll pb fet fso fmi fpa fki fmo fsz frd fct j28 (nC v0)) (fun _ ⟨_, _, _, _, _, _, _, _, _, _, _, _⟩ h => h) (va_runV (As := [.int (nI j28), .int (nI (nC v0))]) (rest := []) ⟨hx, hb, hml, hown, hts⟩ (c_X5_guiltyOfAll l G h0 tt rd nw th kp sh tu n1 n2 n3 n4 n5 n6 n7 n8 t1 t2 t3 t4 t5 t6 t7 t8 co en sk ct et jg pb lw tx him wr zj9l zb9l zl9l fc fe fet fso fmi fpa fki fmo fsz frd x28t1 x28t2 x28t3 x28t4 x28t5 x28t6 x28t7 x28t8 fct x28sk j28 (nC v0) H.size (by first | exact hj | assumption | omega) (by first | exact hnn | assumption | omega) (by first | exact htn | assumption | omega) (by first | exact hc | assumption | omega) (by first | exact he | assumption | omega) (by first | exact hwx | assumption | omega) (by first | exact hjg | assumption | omega) (by first | exact hpb | assumption | omega)) (cwV 2 hts gX5_hardest_X5_guiltyOfAll rfl rfl rfl (by decide +kernel) ⟨Nat.le_of_ble_eq_true rfl, Nat.le_of_ble_eq_true rfl⟩) ⟨gPre_blind, va_recv (q := (RX5, TX5, 8)) hK hP (ci := 5) (q0 := 0) rfl rfl, fun U hU hW => gPre_of hU hW hK hP hD⟩ rfl rfl hl.1 rfl (lv_room (Nat.le_of_ble_eq_true rfl)) dX5_hardest_44 ⟨Nat.le_of_ble_eq_true rfl, Nat.le_of_ble_eq_true rfl⟩) hS hD hA rfl (fun u t H locs ht hvm hB hz1 hk1 hFq hAq hS => ?_)
            obtain ⟨zj9_21, zb9_22, zl9_23, yt1_24, yt2_25, yt3_26, yt4_27, yt5_28, yt6_29, yt7_30, yt8_31, ysk_32⟩ := u
            obtain ⟨hP1, hK1, hD1⟩ := hB
            have hz9 : gPD G A [zo5 h0 tt rd nw th kp sh tu him, zo0 nw tt n1 n2 n3 n4 n5 n6 n7 n8 (nI jg) (nI pb) (nI lw), zi G n2 4 fso, zi G n3 4 fmi, zi G n4 4 fpa, zi G n5 6 fki, zi G n6 6 fmo, zi G n7 6 fsz, zi G n8 6 frd, zo0 th tt t1 t2 t3 t4 t5 t6 t7 t8 zj9_21 zb9_22 zl9_23, zi G t1 6 yt1_24, zi G t2 4 yt2_25, zi G t3 4 yt3_26, zi G t4 4 yt4_27, zi G t5 6 yt5_28, zi G t6 6 yt6_29, zi G t7 6 yt7_30, zi G t8 6 yt8_31, zo3 tt co en sk wr (nI tx), zr G co 6 fc, zr G en 6 fe, zi G ct 160 fct, zi G et 3 (nF fet), zi G sk 32 ysk_32] H := zFill hP hD [0, 1, 2, 3, 4, 5, 6, 7, 8, 9, 10, 11, 12, 13, 14, 15, 16, 17, 18, 19, 20, 21, 22, 23] [1, 2, 3, 4, 5, 6, 7, 8, 9, 10, 11, 12, 13, 14, 15, 16, 17, 18, 19, 20, 21, 22, 23, 24] hAq hk1 hFq ht hP1 hD1 rfl (by decide +kernel)
            have hP := hz9.1
            have hD := hz9.2
            refine lv_istore (lv' := [zI 6 (m_X5_guiltyOfAll pb fet fso fmi fpa fki fmo fsz frd fct j28 (nC v0)), zI 5 (nI j28), zI 4 mo9, zI 3 ha, zR 0 h0, zI 1 v0, zI 2 v1]) hx hb dX5_hardest_47 hl (by decide +kernel) rfl (fun ls hl => ?_)
            refine lv_iload hx hb dX5_hardest_49 (lv_at hl 0 rfl) ?_
            refine lv_iload hx hb dX5_hardest_51 (lv_at hl 2 rfl) ?_
            refine lv_icmp_le (tgt := 63) hx hb dX5_hardest_53 (by decide +kernel) (fun c_33 => ?_) (fun c_33 => ?_)
            · skip
              refine lv_iinc (v := nI (j28 + 1)) (lv' := [zI 5 (nI (j28 + 1)), zI 6 (m_X5_guiltyOfAll pb fet fso fmi fpa fki fmo fsz frd fct j28 (nC v0)), zI 4 mo9, zI 3 ha, zR 0 h0, zI 1 v0, zI 2 v1]) hx hb dX5_hardest_63 hl (k := 1) rfl (nI_add j28 1) (by decide +kernel) rfl (fun ls hl => ?_)
              refine lv_goto (tgt := 28) hx hb dX5_hardest_66 (by decide +kernel) ?_
              exact ih9_28 (j28 + 1) ha mo9 yt1_24 ysk_32 yt2_25 yt3_26 yt4_27 yt5_28 yt6_29 yt7_30 yt8_31 zj9_21 zb9_22 zl9_23 (by omega) (Eq.trans (Eq.symm ((congrArg (fun z9 => p_X5_hardest_28 pb fet fso fmi fpa fki fmo fsz frd fct v0 (z9) j28 ha mo9) (show jg - j28 = jg - (j28 + 1) + 1 by omega)).trans (by show p_X5_hardest_28 pb fet fso fmi fpa fki fmo fsz frd fct v0 (jg - (j28 + 1) + 1) j28 ha mo9 = _; rw [p_X5_hardest_28, if_pos c_33]))) R28) (by omega) _ _ hP hD hS ls (lv_sub hl [0, 2, 3, 4, 5, 6] rfl)
            · skip
              refine lv_iload hx hb dX5_hardest_56 (lv_at hl 0 rfl) ?_
              refine lv_istore (lv' := [zI 4 (m_X5_guiltyOfAll pb fet fso fmi fpa fki fmo fsz frd fct j28 (nC v0)), zI 6 (m_X5_guiltyOfAll pb fet fso fmi fpa fki fmo fsz frd fct j28 (nC v0)), zI 5 (nI j28), zI 3 ha, zR 0 h0, zI 1 v0, zI 2 v1]) hx hb dX5_hardest_58 hl (by decide +kernel) rfl (fun ls hl => ?_)
              refine lv_iload hx hb dX5_hardest_60 (lv_at hl 2 rfl) ?_
              refine lv_istore_n (lv' := [zI 3 (nI j28), zI 4 (m_X5_guiltyOfAll pb fet fso fmi fpa fki fmo fsz frd fct j28 (nC v0)), zI 6 (m_X5_guiltyOfAll pb fet fso fmi fpa fki fmo fsz frd fct j28 (nC v0)), zI 5 (nI j28), zR 0 h0, zI 1 v0, zI 2 v1]) hx hb dX5_hardest_62 rfl hl (by decide +kernel) rfl (fun ls hl => ?_)
              refine lv_iinc (v := nI (j28 + 1)) (lv' := [zI 5 (nI (j28 + 1)), zI 3 (nI j28), zI 4 (m_X5_guiltyOfAll pb fet fso fmi fpa fki fmo fsz frd fct j28 (nC v0)), zI 6 (m_X5_guiltyOfAll pb fet fso fmi fpa fki fmo fsz frd fct j28 (nC v0)), zR 0 h0, zI 1 v0, zI 2 v1]) hx hb dX5_hardest_63 hl (k := 3) rfl (nI_add j28 1) (by decide +kernel) rfl (fun ls hl => ?_)
              refine lv_goto (tgt := 28) hx hb dX5_hardest_66 (by decide +kernel) ?_
              exact ih9_28 (j28 + 1) (nI j28) (m_X5_guiltyOfAll pb fet fso fmi fpa fki fmo fsz frd fct j28 (nC v0)) yt1_24 ysk_32 yt2_25 yt3_26 yt4_27 yt5_28 yt6_29 yt7_30 yt8_31 zj9_21 zb9_22 zl9_23 (by omega) (Eq.trans (Eq.symm ((congrArg (fun z9 => p_X5_hardest_28 pb fet fso fmi fpa fki fmo fsz frd fct v0 (z9) j28 ha mo9) (show jg - j28 = jg - (j28 + 1) + 1 by omega)).trans (by show p_X5_hardest_28 pb fet fso fmi fpa fki fmo fsz frd fct v0 (jg - (j28 + 1) + 1) j28 ha mo9 = _; rw [p_X5_hardest_28, if_neg c_33]))) R28) (by omega) _ _ hP hD hS ls (lv_sub hl [0, 2, 1, 4, 5, 6] rfl)
      exact loop_28 (jg - 0 + 1) 0 (-1) (-1) unm fsk uso umi upa uki umo usz urd tj tb tl (by omega) (rfl) (by omega) _ _ hP hD hS ls hl
    · skip
      have n_12 : ¬ (0 ≤ v1 ∧ v1 ≤ 1) := of_decide_eq_false (bz_eq rfl c_10)
      refine lv_bipush (v := -2) hx hb dX5_hardest_17 (by decide +kernel) ?_
      have hpost : (fun (r : Int32) (u : Int32 × Int32 × Int32 × (Nat → Int32) × (Nat → Int32) × (Nat → Int32) × (Nat → Int32) × (Nat → Int32) × (Nat → Int32) × (Nat → Int32) × (Nat → Int32) × (Nat → Int32)) => match u with | (zj9, zb9, zl9, yt1, yt2, yt3, yt4, yt5, yt6, yt7, yt8, ysk) => r = m_X5_hardest jg pb fet fso fmi fpa fki fmo fsz frd fct v0 v1) (-2) (tj, tb, tl, unm, uso, umi, upa, uki, umo, usz, urd, fsk) := (show m_X5_hardest jg pb fet fso fmi fpa fki fmo fsz frd fct v0 v1 = (-2) from by unfold m_X5_hardest; rw [if_pos p_4, if_neg n_12]).symm
      exact W.iret (v := (-2)) hx hb hr (fun t ht hW => ⟨⟨(-2), (tj, tb, tl, unm, uso, umi, upa, uki, umo, usz, urd, fsk), rfl, hpost, by rw [ht]; exact hP, va_K.moved hW.alike hK, hD⟩, hS.F ht⟩) hS.2.2 dX5_hardest_19
noncomputable def p_X5_thick_30 (fet : Nat → Nat) (fso : Nat → Int32) (fmi : Nat → Int32) (fpa : Nat → Int32) (fki : Nat → Int32) (fmo : Nat → Int32) (fsz : Nat → Int32) (frd : Nat → Int32) (fct : Nat → Int32) (v0 : Int32) (v1 : Int32) (v2 : Int32) : Nat → Nat → Nat
  | 0, w30 => w30
  | q9 + 1, w30 => if (m_X0_verdict (nC v0) (nC v1) (m_X0_go_n2 (nC v0) (nC v1) (nC v2) (upd fso (nC v0) (nI w30)) fmi fpa fki fmo fsz frd fct fet) (m_X0_go_n3 (nC v0) (nC v1) (nC v2) (upd fso (nC v0) (nI w30)) fmi fpa fki fmo fsz frd fct fet) fmo (m_X0_go_n7 (nC v0) (nC v1) (nC v2) (upd fso (nC v0) (nI w30)) fmi fpa fki fmo fsz frd fct fet) frd fct fet (m_X0_go (nC v0) (nC v1) (nC v2) (upd fso (nC v0) (nI w30)) fmi fpa fki fmo fsz frd fct fet)) = 0 then w30 else p_X5_thick_30 fet fso fmi fpa fki fmo fsz frd fct v0 v1 v2 q9 (w30 + 1) 
noncomputable def g_X5_thick_30 (fet : Nat → Nat) (fso : Nat → Int32) (fmi : Nat → Int32) (fpa : Nat → Int32) (fki : Nat → Int32) (fmo : Nat → Int32) (fsz : Nat → Int32) (frd : Nat → Int32) (fct : Nat → Int32) (v0 : Int32) (v1 : Int32) (v2 : Int32) : Nat := p_X5_thick_30 fet fso fmi fpa fki fmo fsz frd fct v0 v1 v2 (21 - 0) 0 
noncomputable def m_X5_thick (jg : Nat) (pb : Nat) (fet : Nat → Nat) (fso : Nat → Int32) (fmi : Nat → Int32) (fpa : Nat → Int32) (fki : Nat → Int32) (fmo : Nat → Int32) (fsz : Nat → Int32) (frd : Nat → Int32) (fct : Nat → Int32) (v0 : Int32) (v1 : Int32) (v2 : Int32) : Int32 := if (mBoth jg pb v0 v1) = true then (if 0 ≤ v2 ∧ v2 ≤ 60 then (if 20 < (nI (g_X5_thick_30 fet fso fmi fpa fki fmo fsz frd fct v0 v1 v2)) then -1 else nI (g_X5_thick_30 fet fso fmi fpa fki fmo fsz frd fct v0 v1 v2)) else -7) else -5
abbrev q_X5_thick (G : gG) (h0 tt rd nw th kp sh tu n1 n2 n3 n4 n5 n6 n7 n8 t1 t2 t3 t4 t5 t6 t7 t8 co en sk ct et : Nat) (jg : Nat) (pb : Nat) (lw : Nat) (tx : Nat) (him : Int32) (wr : Int32) (tj : Int32) (tb : Int32) (tl : Int32) (fc : Nat → Option Nat) (fe : Nat → Option Nat) (fet : Nat → Nat) (fso : Nat → Int32) (fmi : Nat → Int32) (fpa : Nat → Int32) (fki : Nat → Int32) (fmo : Nat → Int32) (fsz : Nat → Int32) (frd : Nat → Int32) (unm : Nat → Int32) (uso : Nat → Int32) (umi : Nat → Int32) (upa : Nat → Int32) (uki : Nat → Int32) (umo : Nat → Int32) (usz : Nat → Int32) (urd : Nat → Int32) (fct : Nat → Int32) (fsk : Nat → Int32) (v0 : Int32) (v1 : Int32) (v2 : Int32) (A : Nat → Prop) : Array Value → State → Outcome → State → Prop := va_Qi (fun (r : Int32) (u : Int32 × Int32 × Int32 × (Nat → Int32) × (Nat → Int32) × (Nat → Int32) × (Nat → Int32) × (Nat → Int32) × (Nat → Int32) × (Nat → Int32) × (Nat → Int32) × (Nat → Int32)) => match u with | (zj9, zb9, zl9, yt1, yt2, yt3, yt4, yt5, yt6, yt7, yt8, ysk) => r = m_X5_thick jg pb fet fso fmi fpa fki fmo fsz frd fct v0 v1 v2) (fun (u : Int32 × Int32 × Int32 × (Nat → Int32) × (Nat → Int32) × (Nat → Int32) × (Nat → Int32) × (Nat → Int32) × (Nat → Int32) × (Nat → Int32) × (Nat → Int32) × (Nat → Int32)) t => match u with | (zj9, zb9, zl9, yt1, yt2, yt3, yt4, yt5, yt6, yt7, yt8, ysk) => va_P G.1 vwCl [zo5 h0 tt rd nw th kp sh tu him, zo0 nw tt n1 n2 n3 n4 n5 n6 n7 n8 (nI jg) (nI pb) (nI lw), zi G n2 4 fso, zi G n3 4 fmi, zi G n4 4 fpa, zi G n5 6 fki, zi G n6 6 fmo, zi G n7 6 fsz, zi G n8 6 frd, zo0 th tt t1 t2 t3 t4 t5 t6 t7 t8 zj9 zb9 zl9, zi G t1 6 yt1, zi G t2 4 yt2, zi G t3 4 yt3, zi G t4 4 yt4, zi G t5 6 yt5, zi G t6 6 yt6, zi G t7 6 yt7, zi G t8 6 yt8, zo3 tt co en sk wr (nI tx), zr G co 6 fc, zr G en 6 fe, zi G ct 160 fct, zi G et 3 (nF fet), zi G sk 32 ysk] t.heap ∧ gK G t ∧ va_D A [zo5 h0 tt rd nw th kp sh tu him, zo0 nw tt n1 n2 n3 n4 n5 n6 n7 n8 (nI jg) (nI pb) (nI lw), zi G n2 4 fso, zi G n3 4 fmi, zi G n4 4 fpa, zi G n5 6 fki, zi G n6 6 fmo, zi G n7 6 fsz, zi G n8 6 frd, zo0 th tt t1 t2 t3 t4 t5 t6 t7 t8 zj9 zb9 zl9, zi G t1 6 yt1, zi G t2 4 yt2, zi G t3 4 yt3, zi G t4 4 yt4, zi G t5 6 yt5, zi G t6 6 yt6, zi G t7 6 yt7, zi G t8 6 yt8, zo3 tt co en sk wr (nI tx), zr G co 6 fc, zr G en 6 fe, zi G ct 160 fct, zi G et 3 (nF fet), zi G sk 32 ysk]) A
set_option maxHeartbeats 4000000 in
set_option maxRecDepth 100000 in
theorem c_X5_thick (l : Launch) (G : gG) (h0 tt rd nw th kp sh tu n1 n2 n3 n4 n5 n6 n7 n8 t1 t2 t3 t4 t5 t6 t7 t8 co en sk ct et : Nat) (jg : Nat) (pb : Nat) (lw : Nat) (tx : Nat) (him : Int32) (wr : Int32) (tj : Int32) (tb : Int32) (tl : Int32) (fc : Nat → Option Nat) (fe : Nat → Option Nat) (fet : Nat → Nat) (fso : Nat → Int32) (fmi : Nat → Int32) (fpa : Nat → Int32) (fki : Nat → Int32) (fmo : Nat → Int32) (fsz : Nat → Int32) (frd : Nat → Int32) (unm : Nat → Int32) (uso : Nat → Int32) (umi : Nat → Int32) (upa : Nat → Int32) (uki : Nat → Int32) (umo : Nat → Int32) (usz : Nat → Int32) (urd : Nat → Int32) (fct : Nat → Int32) (fsk : Nat → Int32) (v0 : Int32) (v1 : Int32) (v2 : Int32) (sz : Nat) (htn : lw < tx ∧ tx ≤ 6) (hc : fc lw = some ct) (he : fe lw = some et) (hwx : mWx fct fet) (hjg : jg ≤ 4) (hpb : pb ≤ 6) : Met l yX5_thick wsX5_thick ({ frames := 5, cells := 0, slots := 0, locals := 441 }) (gPre G [.ref h0, .int v0, .int v1, .int v2] [zo5 h0 tt rd nw th kp sh tu him, zo0 nw tt n1 n2 n3 n4 n5 n6 n7 n8 (nI jg) (nI pb) (nI lw), zi G n2 4 fso, zi G n3 4 fmi, zi G n4 4 fpa, zi G n5 6 fki, zi G n6 6 fmo, zi G n7 6 fsz, zi G n8 6 frd, zo0 th tt t1 t2 t3 t4 t5 t6 t7 t8 tj tb tl, zi G t1 6 unm, zi G t2 4 uso, zi G t3 4 umi, zi G t4 4 upa, zi G t5 6 uki, zi G t6 6 umo, zi G t7 6 usz, zi G t8 6 urd, zo3 tt co en sk wr (nI tx), zr G co 6 fc, zr G en 6 fe, zi G ct 160 fct, zi G et 3 (nF fet), zi G sk 32 fsk] sz) (q_X5_thick G h0 tt rd nw th kp sh tu n1 n2 n3 n4 n5 n6 n7 n8 t1 t2 t3 t4 t5 t6 t7 t8 co en sk ct et jg pb lw tx him wr tj tb tl fc fe fet fso fmi fpa fki fmo fsz frd unm uso umi upa uki umo usz urd fct fsk v0 v1 v2 (va_A [zo5 h0 tt rd nw th kp sh tu him, zo0 nw tt n1 n2 n3 n4 n5 n6 n7 n8 (nI jg) (nI pb) (nI lw), zi G n2 4 fso, zi G n3 4 fmi, zi G n4 4 fpa, zi G n5 6 fki, zi G n6 6 fmo, zi G n7 6 fsz, zi G n8 6 frd, zo0 th tt t1 t2 t3 t4 t5 t6 t7 t8 tj tb tl, zi G t1 6 unm, zi G t2 4 uso, zi G t3 4 umi, zi G t4 4 upa, zi G t5 6 uki, zi G t6 6 umo, zi G t7 6 usz, zi G t8 6 urd, zo3 tt co en sk wr (nI tx), zr G co 6 fc, zr G en 6 fe, zi G ct 160 fct, zi G et 3 (nF fet), zi G sk 32 fsk] sz)) 0 0 (va_A [zo5 h0 tt rd nw th kp sh tu him, zo0 nw tt n1 n2 n3 n4 n5 n6 n7 n8 (nI jg) (nI pb) (nI lw), zi G n2 4 fso, zi G n3 4 fmi, zi G n4 4 fpa, zi G n5 6 fki, zi G n6 6 fmo, zi G n7 6 fsz, zi G n8 6 frd, zo0 th tt t1 t2 t3 t4 t5 t6 t7 t8 tj tb tl, zi G t1 6 unm, zi G t2 4 uso, zi G t3 4 umi, zi G t4 4 upa, zi G t5 6 uki, zi G t6 6 umo, zi G t7 6 usz, zi G t8 6 urd, zo3 tt co en sk wr (nI tx), zr G co 6 fc, zr G en 6 fe, zi G ct 160 fct, zi G et 3 (nF fet), zi G sk 32 fsk] sz) := by
  refine Met.ofW (cc := cX5_thick) (maxL := 5) (ret := (some .int)) (by decide +kernel) rfl ?_
  intro p e s m args below meth c s₁ B hml hv
  obtain ⟨rfl, hsz, hP, hK, hD0⟩ := hv
  have hx := B.exec
  have hb := B.bytes
  have hr := B.returns
  have hts := atoms_spec (ws := wsX5_thick) B.pre
  have hown : s.vm.findClass RX5 = some m.cls := findClass_of_methodNamed B.named
  have hlocks := B.notSynchronized
  subst hsz
  have hD := hD0.self (sz := s.heap.size)
  generalize hAe : va_A [zo5 h0 tt rd nw th kp sh tu him, zo0 nw tt n1 n2 n3 n4 n5 n6 n7 n8 (nI jg) (nI pb) (nI lw), zi G n2 4 fso, zi G n3 4 fmi, zi G n4 4 fpa, zi G n5 6 fki, zi G n6 6 fmo, zi G n7 6 fsz, zi G n8 6 frd, zo0 th tt t1 t2 t3 t4 t5 t6 t7 t8 tj tb tl, zi G t1 6 unm, zi G t2 4 uso, zi G t3 4 umi, zi G t4 4 upa, zi G t5 6 uki, zi G t6 6 umo, zi G t7 6 usz, zi G t8 6 urd, zo3 tt co en sk wr (nI tx), zr G co 6 fc, zr G en 6 fe, zi G ct 160 fct, zi G et 3 (nF fet), zi G sk 32 fsk] s.heap.size = A at hD ⊢
  have hA : ∀ q : Nat, s.heap.size ≤ q → A q := fun q h => by rw [← hAe]; exact Or.inr h
  have hS : va_S A s.heap s.heap [] := va_S.rf
  have hz9 : gPD G A [zo5 h0 tt rd nw th kp sh tu him, zo0 nw tt n1 n2 n3 n4 n5 n6 n7 n8 (nI jg) (nI pb) (nI lw), zi G n2 4 fso, zi G n3 4 fmi, zi G n4 4 fpa, zi G n5 6 fki, zi G n6 6 fmo, zi G n7 6 fsz, zi G n8 6 frd, zo0 th tt t1 t2 t3 t4 t5 t6 t7 t8 tj tb tl, zi G t1 6 unm, zi G t2 4 uso, zi G t3 4 umi, zi G t4 4 upa, zi G t5 6 uki, zi G t6 6 umo, zi G t7 6 usz, zi G t8 6 urd, zo3 tt co en sk wr (nI tx), zr G co 6 fc, zr G en 6 fe, zi G ct 160 fct, zi G et 3 (nF fet), zi G sk 32 fsk] s.heap := ⟨hP, hD⟩
  have hP := hz9.1
  have hD := hz9.2
  have hl := lv_entry ([.ref h0, .int v0, .int v1, .int v2]) (n := 5) (Nat.le_of_ble_eq_true rfl)
  rw [lg_entry_eq]
  generalize (lg_sl ([.ref h0, .int v0, .int v1, .int v2]) ++ List.replicate (5 - (lg_sl ([.ref h0, .int v0, .int v1, .int v2])).length) Slot.unset).toArray = ls at hl ⊢
  have hl : lv_has ls 5 [zR 0 h0, zI 1 v0, zI 2 v1, zI 3 v2] := hl
  have kf28 := hts (.fieldLink RX5 28 "PebbleInShoe" "now" "LPebbleInShoe$Court;") (by decide +kernel)
  have hiX5 := (by decide +kernel : ∀ w ∈ wsX50, w ∈ wsX5_thick)
  have kf32 := hts (.fieldLink RX5 32 "PebbleInShoe" "thought" "LPebbleInShoe$Court;") (by decide +kernel)
  have kf98 := hts (.fieldLink RX5 98 "PebbleInShoe$Court" "soles" "[I") (by decide +kernel)
  have hiX0 := (by decide +kernel : ∀ w ∈ wsX00, w ∈ wsX5_thick)
  refine g_aget (D := G.1) (ci := 5) (v := .ref nw) (C := RX5) (T := TX5) (N := 8) hx hb dX5_thick_0 rfl (lv_at hl 0 rfl) hts hiX5 hown hK hP 0 rfl rfl 2 (by decide +kernel) kf28 (fun _ h9 => h9) rfl dX5_thick_1 ?_
  refine lv_iload_n hx hb dX5_thick_4 rfl (lv_at hl 1 rfl) ?_
  refine lv_iload_n hx hb dX5_thick_5 rfl (lv_at hl 2 rfl) ?_
  refine z_calli [1] (v := bz (mBoth jg pb v0 v1)) (fun _ _ h => h) (va_runV (As := [.int v0, .int v1]) (rest := []) ⟨hx, hb, hml, hown, hts⟩ (c_X0_hasBoth_g l G nw tt n1 n2 n3 n4 n5 n6 n7 n8 jg pb lw v0 v1 s.heap.size (by first | exact hjg | assumption | omega) (by first | exact hpb | assumption | omega)) (cwV 2 hts gX5_thick_X0_hasBoth rfl rfl rfl (by decide +kernel) ⟨Nat.le_of_ble_eq_true rfl, Nat.le_of_ble_eq_true rfl⟩) ⟨gPre_blind, va_recv (q := (RX0, TX0, 12)) hK hP (ci := 0) (q0 := 1) rfl rfl, fun U hU hW => gPre_ofF [1] hU hW hK hP hD (by decide +kernel) rfl⟩ rfl rfl hl.1 rfl (lv_room (Nat.le_of_ble_eq_true rfl)) dX5_thick_6 ⟨Nat.le_of_ble_eq_true rfl, Nat.le_of_ble_eq_true rfl⟩) hS hD hA rfl (fun u t H locs ht hvm hB hz1 hk1 hFq hAq hS => ?_)
  obtain ⟨hP1, hK1, hD1⟩ := hB
  have hP := zKeep hP hD [1] hAq hk1 ht hP1 rfl
  refine lv_if_ne (tgt := 15) hx hb dX5_thick_9 (by decide +kernel) (fun c_3 => ?_) (fun c_3 => ?_)
  · skip
    have p_4 : (mBoth jg pb v0 v1) = true := bz_ne rfl c_3
    have hv_6 : v0 = nI (nC v0) := mHas_eq (mBoth_1 p_4)
    have hk_7 : nC v0 < jg := mHas_lt (by omega) (mBoth_1 p_4)
    have hv_8 : v1 = nI (nC v1) := mHas_eq (mBoth_2 p_4)
    have hk_9 : nC v1 < pb := mHas_lt (by omega) (mBoth_2 p_4)
    refine lv_iload_n hx hb dX5_thick_15 rfl (lv_at hl 3 rfl) ?_
    refine lv_bipush (v := 60) hx hb dX5_thick_16 (by decide +kernel) ?_
    refine z_calli [] (v := bz (decide (0 ≤ v2 ∧ v2 ≤ 60))) (fun _ _ h => h) (va_runS (As := [.int v2, .int 60]) (rest := []) ⟨hx, hb, hml, hown, hts⟩ (c_X5_within_g l G v2 60 H.size) (va_cwS 2 hts gX5_thick_X5_within rfl rfl rfl (by decide +kernel) ⟨Nat.le_of_ble_eq_true rfl, Nat.le_of_ble_eq_true rfl⟩) ⟨gPre_blind, fun U hU hW => gPre_ofF [] hU hW hK hP hD (by decide +kernel) rfl⟩ rfl rfl hl.1 rfl (lv_room (Nat.le_of_ble_eq_true rfl)) dX5_thick_18 ⟨Nat.le_of_ble_eq_true rfl, Nat.le_of_ble_eq_true rfl⟩) hS hD hA rfl (fun u t H locs ht hvm hB hz1 hk1 hFq hAq hS => ?_)
    obtain ⟨hP1, hK1, hD1⟩ := hB
    have hP := zKeep hP hD [] hAq hk1 ht hP1 rfl
    refine lv_if_ne (tgt := 27) hx hb dX5_thick_21 (by decide +kernel) (fun c_12 => ?_) (fun c_12 => ?_)
    · skip
      have p_13 : 0 ≤ v2 ∧ v2 ≤ 60 := of_decide_eq_true (bz_ne rfl c_12)
      have hv_15 : v2 = nI (nC v2) := nC_eq p_13.1
      have hk_16 : nC v2 ≤ 60 := nC_le (n := 60) (by omega) p_13
      refine lv_iconst (v := 0) hx hb dX5_thick_27 (by decide +kernel) ?_
      refine lv_istore (lv' := [zI 4 0, zR 0 h0, zI 1 v0, zI 2 v1, zI 3 v2]) hx hb dX5_thick_28 hl (by decide +kernel) rfl (fun ls hl => ?_)
      have loop_30 : ∀ (n9 : Nat) (w30 : Nat) (x30t1 : Nat → Int32) (x30sk : Nat → Int32) (x30t2 : Nat → Int32) (x30t3 : Nat → Int32) (x30t4 : Nat → Int32) (x30t5 : Nat → Int32) (x30t6 : Nat → Int32) (x30t7 : Nat → Int32) (x30t8 : Nat → Int32) (zj9l : Int32) (zb9l : Int32) (zl9l : Int32), (w30 ≤ 21) → (p_X5_thick_30 fet fso fmi fpa fki fmo fsz frd fct v0 v1 v2 (21 - w30) w30  = (g_X5_thick_30 fet fso fmi fpa fki fmo fsz frd fct v0 v1 v2)) → (21 - w30) < n9 → ∀ (H : Heap) (locs : List Loc), va_P G.1 vwCl [zo5 h0 tt rd nw th kp sh tu him, zo0 nw tt n1 n2 n3 n4 n5 n6 n7 n8 (nI jg) (nI pb) (nI lw), zi G n2 4 fso, zi G n3 4 fmi, zi G n4 4 fpa, zi G n5 6 fki, zi G n6 6 fmo, zi G n7 6 fsz, zi G n8 6 frd, zo0 th tt t1 t2 t3 t4 t5 t6 t7 t8 zj9l zb9l zl9l, zi G t1 6 x30t1, zi G t2 4 x30t2, zi G t3 4 x30t3, zi G t4 4 x30t4, zi G t5 6 x30t5, zi G t6 6 x30t6, zi G t7 6 x30t7, zi G t8 6 x30t8, zo3 tt co en sk wr (nI tx), zr G co 6 fc, zr G en 6 fe, zi G ct 160 fct, zi G et 3 (nF fet), zi G sk 32 x30sk] H → va_D A [zo5 h0 tt rd nw th kp sh tu him, zo0 nw tt n1 n2 n3 n4 n5 n6 n7 n8 (nI jg) (nI pb) (nI lw), zi G n2 4 fso, zi G n3 4 fmi, zi G n4 4 fpa, zi G n5 6 fki, zi G n6 6 fmo, zi G n7 6 fsz, zi G n8 6 frd, zo0 th tt t1 t2 t3 t4 t5 t6 t7 t8 zj9l zb9l zl9l, zi G t1 6 x30t1, zi G t2 4 x30t2, zi G t3 4 x30t3, zi G t4 4 x30t4, zi G t5 6 x30t5, zi G t6 6 x30t6, zi G t7 6 x30t7, zi G t8 6 x30t8, zo3 tt co en sk wr (nI tx), zr G co 6 fc, zr G en 6 fe, zi G ct 160 fct, zi G et 3 (nF fet), zi G sk 32 x30sk] → va_S A s.heap H locs → ∀ ls : Array Slot, lv_has ls 5 [zI 4 (nI w30), zR 0 h0, zI 1 v0, zI 2 v1, zI 3 v2] → W p l e (headSpec wsX5_thick ({ frames := 5, cells := 0, slots := 0, locals := 441 })).room s m ([.ref h0, .int v0, .int v1, .int v2] : List Value).toArray below meth c H locs 0 0 (MQ below (q_X5_thick G h0 tt rd nw th kp sh tu n1 n2 n3 n4 n5 n6 n7 n8 t1 t2 t3 t4 t5 t6 t7 t8 co en sk ct et jg pb lw tx him wr tj tb tl fc fe fet fso fmi fpa fki fmo fsz frd unm uso umi upa uki umo usz urd fct fsk v0 v1 v2 A) ([.ref h0, .int v0, .int v1, .int v2] : List Value).toArray s 0 0 A) (F0 m 30 ls []) := by
        intro n9
        induction n9 with
        | zero => intro w30 x30t1 x30sk x30t2 x30t3 x30t4 x30t5 x30t6 x30t7 x30t8 zj9l zb9l zl9l hw30 R30 hm9_30; exact absurd hm9_30 (Nat.not_lt_zero _)
        | succ n9 ih9_30 =>
          intro w30 x30t1 x30sk x30t2 x30t3 x30t4 x30t5 x30t6 x30t7 x30t8 zj9l zb9l zl9l hw30 R30 hm9_30 H locs hP hD hS ls hl
          refine lv_iload hx hb dX5_thick_30 (lv_at hl 0 rfl) ?_
          refine lv_bipush (v := 20) hx hb dX5_thick_32 (by decide +kernel) ?_
          refine lv_icmp_gt (tgt := 83) hx hb dX5_thick_34 (by decide +kernel) (fun c_17 => ?_) (fun c_17 => ?_)
          · skip
            have c_17N : 20 < w30 := nI_lt1 (a := 20) (b := w30) (by omega) (by omega) c_17
            have hF30 : (g_X5_thick_30 fet fso fmi fpa fki fmo fsz frd fct v0 v1 v2) = w30 := by rw [← R30, show 21 - w30 = 0 by omega]; rfl
            have hE30_0 : w30 = (g_X5_thick_30 fet fso fmi fpa fki fmo fsz frd fct v0 v1 v2) := by rw [hF30]
            clear hF30 R30
            subst hE30_0
            refine lv_iconst (v := -1) hx hb dX5_thick_83 (by decide +kernel) ?_
            have hpost : (fun (r : Int32) (u : Int32 × Int32 × Int32 × (Nat → Int32) × (Nat → Int32) × (Nat → Int32) × (Nat → Int32) × (Nat → Int32) × (Nat → Int32) × (Nat → Int32) × (Nat → Int32) × (Nat → Int32)) => match u with | (zj9, zb9, zl9, yt1, yt2, yt3, yt4, yt5, yt6, yt7, yt8, ysk) => r = m_X5_thick jg pb fet fso fmi fpa fki fmo fsz frd fct v0 v1 v2) (-1) (zj9l, zb9l, zl9l, x30t1, x30t2, x30t3, x30t4, x30t5, x30t6, x30t7, x30t8, x30sk) := (show m_X5_thick jg pb fet fso fmi fpa fki fmo fsz frd fct v0 v1 v2 = (-1) from by unfold m_X5_thick; rw [if_pos p_4, if_pos p_13, if_pos c_17]).symm
            exact W.iret (v := (-1)) hx hb hr (fun t ht hW => ⟨⟨(-1), (zj9l, zb9l, zl9l, x30t1, x30t2, x30t3, x30t4, x30t5, x30t6, x30t7, x30t8, x30sk), rfl, hpost, by rw [ht]; exact hP, va_K.moved hW.alike hK, hD⟩, hS.F ht⟩) hS.2.2 dX5_thick_84
          · skip
            have c_17N : w30 ≤ 20 := nI_lt0 (a := 20) (b := w30) (by omega) (by omega) c_17
            refine lv_aload_n hx hb dX5_thick_37 rfl (lv_at hl 1 rfl) ?_
            refine z_callv [0, 1, 2, 3, 4, 5, 6, 7, 8, 9, 11, 12, 13, 14, 15, 16, 17] (va_runV (As := []) (rest := []) ⟨hx, hb, hml, hown, hts⟩ (c_X5_think l G h0 tt rd nw th kp sh tu n1 n2 n3 n4 n5 n6 n7 n8 t1 t2 t3 t4 t5 t6 t7 t8 jg pb lw him zj9l zb9l zl9l fso fmi fpa fki fmo fsz frd x30t2 x30t3 x30t4 x30t5 x30t6 x30t7 x30t8 H.size (by first | exact hjg | assumption | omega) (by first | exact hpb | assumption | omega)) (cwV 0 hts gX5_thick_X5_think rfl rfl rfl (by decide +kernel) ⟨Nat.le_of_ble_eq_true rfl, Nat.le_of_ble_eq_true rfl⟩) ⟨gPre_blind, va_recv (q := (RX5, TX5, 8)) hK hP (ci := 5) (q0 := 0) rfl rfl, fun U hU hW => gPre_ofF [0, 1, 2, 3, 4, 5, 6, 7, 8, 9, 11, 12, 13, 14, 15, 16, 17] hU hW hK hP hD (by decide +kernel) rfl⟩ rfl rfl hl.1 rfl (lv_room (Nat.le_of_ble_eq_true rfl)) dX5_thick_38 ⟨Nat.le_of_ble_eq_true rfl, Nat.le_of_ble_eq_true rfl⟩) hS hD hA rfl (fun u t H locs ht hvm w_19 hB hz1 hk1 hFq hAq hS => ?_)
            obtain ⟨hP1, hK1, hD1⟩ := hB
            have hz9 : gPD G A [zo5 h0 tt rd nw th kp sh tu him, zo0 nw tt n1 n2 n3 n4 n5 n6 n7 n8 (nI jg) (nI pb) (nI lw), zi G n2 4 fso, zi G n3 4 fmi, zi G n4 4 fpa, zi G n5 6 fki, zi G n6 6 fmo, zi G n7 6 fsz, zi G n8 6 frd, zo0 th tt t1 t2 t3 t4 t5 t6 t7 t8 (nI jg) (nI pb) (nI lw), zi G t1 6 x30t1, zi G t2 4 fso, zi G t3 4 fmi, zi G t4 4 fpa, zi G t5 6 fki, zi G t6 6 fmo, zi G t7 6 fsz, zi G t8 6 frd, zo3 tt co en sk wr (nI tx), zr G co 6 fc, zr G en 6 fe, zi G ct 160 fct, zi G et 3 (nF fet), zi G sk 32 x30sk] H := zFill hP hD [0, 1, 2, 3, 4, 5, 6, 7, 8, 9, 11, 12, 13, 14, 15, 16, 17] [1, 2, 3, 4, 5, 6, 7, 8, 9, 10, 0, 11, 12, 13, 14, 15, 16, 17] hAq hk1 hFq ht hP1 hD1 rfl (by decide +kernel)
            have hP := hz9.1
            have hD := hz9.2
            refine g_aget (D := G.1) (ci := 5) (v := .ref th) (C := RX5) (T := TX5) (N := 8) hx hb dX5_thick_41 rfl (lv_at hl 1 rfl) hts hiX5 hown hK hP 0 rfl rfl 3 (by decide +kernel) kf32 (fun _ h9 => h9) rfl dX5_thick_42 ?_
            refine va_get (D := G.1) (ci := 0) (v := .ref t2) (C := RX0) (T := TX0) (N := 12) hx hb hts hiX0 hown hK hP 9 rfl rfl 2 (by decide +kernel) kf98 (fun _ h9 => h9) rfl dX5_thick_45 ?_
            refine lv_iload_n hx hb dX5_thick_48 rfl (lv_at hl 2 rfl) ?_
            refine g_topi (y := nI (nC v0)) hv_6 ?_
            refine lv_iload hx hb dX5_thick_49 (lv_at hl 0 rfl) ?_
            refine g_iast (D := G.1) hx hb hK hP hD hS 11 0 rfl rfl (k := nC v0) (x := (nI w30)) (by omega) rfl dX5_thick_51 (fun H locs hP hD hS => ?_)
            have hz9 : gPD G A [zo5 h0 tt rd nw th kp sh tu him, zo0 nw tt n1 n2 n3 n4 n5 n6 n7 n8 (nI jg) (nI pb) (nI lw), zi G n2 4 fso, zi G n3 4 fmi, zi G n4 4 fpa, zi G n5 6 fki, zi G n6 6 fmo, zi G n7 6 fsz, zi G n8 6 frd, zo0 th tt t1 t2 t3 t4 t5 t6 t7 t8 (nI jg) (nI pb) (nI lw), zi G t1 6 x30t1, zi G t2 4 (upd fso (nC v0) (nI w30)), zi G t3 4 fmi, zi G t4 4 fpa, zi G t5 6 fki, zi G t6 6 fmo, zi G t7 6 fsz, zi G t8 6 frd, zo3 tt co en sk wr (nI tx), zr G co 6 fc, zr G en 6 fe, zi G ct 160 fct, zi G et 3 (nF fet), zi G sk 32 x30sk] H := ⟨hP, hD⟩
            have hP := hz9.1
            have hD := hz9.2
            refine g_aget (D := G.1) (ci := 5) (v := .ref th) (C := RX5) (T := TX5) (N := 8) hx hb dX5_thick_52 rfl (lv_at hl 1 rfl) hts hiX5 hown hK hP 0 rfl rfl 3 (by decide +kernel) kf32 (fun _ h9 => h9) rfl dX5_thick_53 ?_
            refine lv_iload_n hx hb dX5_thick_56 rfl (lv_at hl 2 rfl) ?_
            refine g_topi (y := nI (nC v0)) hv_6 ?_
            refine lv_iload_n hx hb dX5_thick_57 rfl (lv_at hl 3 rfl) ?_
            refine g_topi (y := nI (nC v1)) hv_8 ?_
            refine g_aget (D := G.1) (ci := 5) (v := .ref th) (C := RX5) (T := TX5) (N := 8) hx hb dX5_thick_58 rfl (lv_at hl 1 rfl) hts hiX5 hown hK hP 0 rfl rfl 3 (by decide +kernel) kf32 (fun _ h9 => h9) rfl dX5_thick_59 ?_
            refine lv_iload_n hx hb dX5_thick_62 rfl (lv_at hl 2 rfl) ?_
            refine g_topi (y := nI (nC v0)) hv_6 ?_
            refine lv_iload_n hx hb dX5_thick_63 rfl (lv_at hl 3 rfl) ?_
            refine g_topi (y := nI (nC v1)) hv_8 ?_
            refine lv_iload_n hx hb dX5_thick_64 rfl (lv_at hl 4 rfl) ?_
            refine g_topi (y := nI (nC v2)) hv_15 ?_
            refine z_calli [9, 10, 11, 12, 13, 14, 15, 16, 17, 18, 19, 20, 21, 22, 23] (v := m_X0_go (nC v0) (nC v1) (nC v2) (upd fso (nC v0) (nI w30)) fmi fpa fki fmo fsz frd fct fet) (fun _ ⟨_, _⟩ h => h) (va_runV (As := [.int (nI (nC v0)), .int (nI (nC v1)), .int (nI (nC v2))]) (rest := [.int (nI (nC v1)), .int (nI (nC v0)), .ref th]) ⟨hx, hb, hml, hown, hts⟩ (c_X0_go l G th tt t1 t2 t3 t4 t5 t6 t7 t8 co en sk ct et lw (nC v0) (nC v1) (nC v2) tx (nI jg) (nI pb) wr x30t1 (upd fso (nC v0) (nI w30)) fmi fpa fki fmo fsz frd fc fe fct fet x30sk H.size (by first | exact hj | assumption | omega) (by first | exact hp | assumption | omega) (by first | exact hnn | assumption | omega) (by first | exact htn | assumption | omega) (by first | exact hc | assumption | omega) (by first | exact he | assumption | omega) (by first | exact hwx | assumption | omega)) (cwV 3 hts gX5_thick_X0_go rfl rfl rfl (by decide +kernel) ⟨Nat.le_of_ble_eq_true rfl, Nat.le_of_ble_eq_true rfl⟩) ⟨gPre_blind, va_recv (q := (RX0, TX0, 12)) hK hP (ci := 0) (q0 := 9) rfl rfl, fun U hU hW => gPre_ofF [9, 10, 11, 12, 13, 14, 15, 16, 17, 18, 19, 20, 21, 22, 23] hU hW hK hP hD (by decide +kernel) rfl⟩ rfl rfl hl.1 rfl (lv_room (Nat.le_of_ble_eq_true rfl)) dX5_thick_65 ⟨Nat.le_of_ble_eq_true rfl, Nat.le_of_ble_eq_true rfl⟩) hS hD hA rfl (fun u t H locs ht hvm hB hz1 hk1 hFq hAq hS => ?_)
            obtain ⟨yn1_28, ysk_29⟩ := u
            obtain ⟨hP1, hK1, hD1⟩ := hB
            have hz9 : gPD G A [zo5 h0 tt rd nw th kp sh tu him, zo0 nw tt n1 n2 n3 n4 n5 n6 n7 n8 (nI jg) (nI pb) (nI lw), zi G n2 4 fso, zi G n3 4 fmi, zi G n4 4 fpa, zi G n5 6 fki, zi G n6 6 fmo, zi G n7 6 fsz, zi G n8 6 frd, zo0 th tt t1 t2 t3 t4 t5 t6 t7 t8 (nI jg) (nI pb) (nI lw), zi G t1 6 yn1_28, zi G t2 4 (m_X0_go_n2 (nC v0) (nC v1) (nC v2) (upd fso (nC v0) (nI w30)) fmi fpa fki fmo fsz frd fct fet), zi G t3 4 (m_X0_go_n3 (nC v0) (nC v1) (nC v2) (upd fso (nC v0) (nI w30)) fmi fpa fki fmo fsz frd fct fet), zi G t4 4 (m_X0_go_n4 (nC v0) (nC v1) (nC v2) (upd fso (nC v0) (nI w30)) fmi fpa fki fmo fsz frd fct fet), zi G t5 6 fki, zi G t6 6 fmo, zi G t7 6 (m_X0_go_n7 (nC v0) (nC v1) (nC v2) (upd fso (nC v0) (nI w30)) fmi fpa fki fmo fsz frd fct fet), zi G t8 6 frd, zo3 tt co en sk wr (nI tx), zr G co 6 fc, zr G en 6 fe, zi G ct 160 fct, zi G et 3 (nF fet), zi G sk 32 ysk_29] H := zFill hP hD [9, 10, 11, 12, 13, 14, 15, 16, 17, 18, 19, 20, 21, 22, 23] [0, 0, 0, 0, 0, 0, 0, 0, 0, 1, 2, 3, 4, 5, 6, 7, 8, 9, 10, 11, 12, 13, 14, 15] hAq hk1 hFq ht hP1 hD1 rfl (by decide +kernel)
            have hP := hz9.1
            have hD := hz9.2
            refine z_calli [9, 10, 11, 12, 15, 16, 17, 18, 19, 20, 21, 22, 23] (v := m_X0_verdict (nC v0) (nC v1) (m_X0_go_n2 (nC v0) (nC v1) (nC v2) (upd fso (nC v0) (nI w30)) fmi fpa fki fmo fsz frd fct fet) (m_X0_go_n3 (nC v0) (nC v1) (nC v2) (upd fso (nC v0) (nI w30)) fmi fpa fki fmo fsz frd fct fet) fmo (m_X0_go_n7 (nC v0) (nC v1) (nC v2) (upd fso (nC v0) (nI w30)) fmi fpa fki fmo fsz frd fct fet) frd fct fet (m_X0_go (nC v0) (nC v1) (nC v2) (upd fso (nC v0) (nI w30)) fmi fpa fki fmo fsz frd fct fet)) (fun _ ⟨_, _⟩ h => h) (va_runV (As := [.int (nI (nC v0)), .int (nI (nC v1)), .int (m_X0_go (nC v0) (nC v1) (nC v2) (upd fso (nC v0) (nI w30)) fmi fpa fki fmo fsz frd fct fet)]) (rest := []) ⟨hx, hb, hml, hown, hts⟩ (c_X0_verdict l G th tt t1 t2 t3 t4 t5 t6 t7 t8 co en sk ct et lw (nC v0) (nC v1) tx (nI jg) (nI pb) wr yn1_28 (m_X0_go_n2 (nC v0) (nC v1) (nC v2) (upd fso (nC v0) (nI w30)) fmi fpa fki fmo fsz frd fct fet) (m_X0_go_n3 (nC v0) (nC v1) (nC v2) (upd fso (nC v0) (nI w30)) fmi fpa fki fmo fsz frd fct fet) fmo (m_X0_go_n7 (nC v0) (nC v1) (nC v2) (upd fso (nC v0) (nI w30)) fmi fpa fki fmo fsz frd fct fet) frd fc fe fct fet ysk_29 (m_X0_go (nC v0) (nC v1) (nC v2) (upd fso (nC v0) (nI w30)) fmi fpa fki fmo fsz frd fct fet) H.size (by first | exact hj | assumption | omega) (by first | exact hp | assumption | omega) (by first | exact htn | assumption | omega) (by first | exact hc | assumption | omega) (by first | exact he | assumption | omega) (by first | exact hwx | assumption | omega)) (cwV 3 hts gX5_thick_X0_verdict rfl rfl rfl (by decide +kernel) ⟨Nat.le_of_ble_eq_true rfl, Nat.le_of_ble_eq_true rfl⟩) ⟨gPre_blind, va_recv (q := (RX0, TX0, 12)) hK hP (ci := 0) (q0 := 9) rfl rfl, fun U hU hW => gPre_ofF [9, 10, 11, 12, 15, 16, 17, 18, 19, 20, 21, 22, 23] hU hW hK hP hD (by decide +kernel) rfl⟩ rfl rfl hl.1 rfl (lv_room (Nat.le_of_ble_eq_true rfl)) dX5_thick_68 ⟨Nat.le_of_ble_eq_true rfl, Nat.le_of_ble_eq_true rfl⟩) hS hD hA rfl (fun u t H locs ht hvm hB hz1 hk1 hFq hAq hS => ?_)
            obtain ⟨yn1_32, ysk_33⟩ := u
            obtain ⟨hP1, hK1, hD1⟩ := hB
            have hz9 : gPD G A [zo5 h0 tt rd nw th kp sh tu him, zo0 nw tt n1 n2 n3 n4 n5 n6 n7 n8 (nI jg) (nI pb) (nI lw), zi G n2 4 fso, zi G n3 4 fmi, zi G n4 4 fpa, zi G n5 6 fki, zi G n6 6 fmo, zi G n7 6 fsz, zi G n8 6 frd, zo0 th tt t1 t2 t3 t4 t5 t6 t7 t8 (nI jg) (nI pb) (nI lw), zi G t1 6 yn1_32, zi G t2 4 (m_X0_go_n2 (nC v0) (nC v1) (nC v2) (upd fso (nC v0) (nI w30)) fmi fpa fki fmo fsz frd fct fet), zi G t3 4 (m_X0_go_n3 (nC v0) (nC v1) (nC v2) (upd fso (nC v0) (nI w30)) fmi fpa fki fmo fsz frd fct fet), zi G t4 4 (m_X0_go_n4 (nC v0) (nC v1) (nC v2) (upd fso (nC v0) (nI w30)) fmi fpa fki fmo fsz frd fct fet), zi G t5 6 fki, zi G t6 6 fmo, zi G t7 6 (m_X0_go_n7 (nC v0) (nC v1) (nC v2) (upd fso (nC v0) (nI w30)) fmi fpa fki fmo fsz frd fct fet), zi G t8 6 frd, zo3 tt co en sk wr (nI tx), zr G co 6 fc, zr G en 6 fe, zi G ct 160 fct, zi G et 3 (nF fet), zi G sk 32 ysk_33] H := zFill hP hD [9, 10, 11, 12, 15, 16, 17, 18, 19, 20, 21, 22, 23] [0, 0, 0, 0, 0, 0, 0, 0, 0, 1, 2, 3, 4, 0, 0, 5, 6, 7, 8, 9, 10, 11, 12, 13] hAq hk1 hFq ht hP1 hD1 rfl (by decide +kernel)
            have hP := hz9.1
            have hD := hz9.2
            refine lv_if_ne (tgt := 77) hx hb dX5_thick_71 (by decide +kernel) (fun c_34 => ?_) (fun c_34 => ?_)
            · skip
              refine lv_iinc (v := nI (w30 + 1)) (lv' := [zI 4 (nI (w30 + 1)), zR 0 h0, zI 1 v0, zI 2 v1, zI 3 v2]) hx hb dX5_thick_77 hl (k := 0) rfl (nI_add w30 1) (by decide +kernel) rfl (fun ls hl => ?_)
              refine lv_goto (tgt := 30) hx hb dX5_thick_80 (by decide +kernel) ?_
              exact ih9_30 (w30 + 1) yn1_32 ysk_33 (m_X0_go_n2 (nC v0) (nC v1) (nC v2) (upd fso (nC v0) (nI w30)) fmi fpa fki fmo fsz frd fct fet) (m_X0_go_n3 (nC v0) (nC v1) (nC v2) (upd fso (nC v0) (nI w30)) fmi fpa fki fmo fsz frd fct fet) (m_X0_go_n4 (nC v0) (nC v1) (nC v2) (upd fso (nC v0) (nI w30)) fmi fpa fki fmo fsz frd fct fet) fki fmo (m_X0_go_n7 (nC v0) (nC v1) (nC v2) (upd fso (nC v0) (nI w30)) fmi fpa fki fmo fsz frd fct fet) frd (nI jg) (nI pb) (nI lw) (by omega) (Eq.trans (Eq.symm ((congrArg (fun z9 => p_X5_thick_30 fet fso fmi fpa fki fmo fsz frd fct v0 v1 v2 (z9) w30 ) (show 21 - w30 = 21 - (w30 + 1) + 1 by omega)).trans (by show p_X5_thick_30 fet fso fmi fpa fki fmo fsz frd fct v0 v1 v2 (21 - (w30 + 1) + 1) w30  = _; rw [p_X5_thick_30, if_neg c_34]))) R30) (by omega) _ _ hP hD hS ls hl
            · skip
              refine lv_iload hx hb dX5_thick_74 (lv_at hl 0 rfl) ?_
              have hF30 : (g_X5_thick_30 fet fso fmi fpa fki fmo fsz frd fct v0 v1 v2) = w30 := R30.symm.trans ((congrArg (fun z9 => p_X5_thick_30 fet fso fmi fpa fki fmo fsz frd fct v0 v1 v2 (z9) w30 ) (show 21 - w30 = 21 - (w30 + 1) + 1 by omega)).trans (by show p_X5_thick_30 fet fso fmi fpa fki fmo fsz frd fct v0 v1 v2 (21 - (w30 + 1) + 1) w30  = _; rw [p_X5_thick_30, if_pos c_34]))
              have hE30_0 : w30 = (g_X5_thick_30 fet fso fmi fpa fki fmo fsz frd fct v0 v1 v2) := by rw [hF30]
              clear hF30 R30
              subst hE30_0
              have hpost : (fun (r : Int32) (u : Int32 × Int32 × Int32 × (Nat → Int32) × (Nat → Int32) × (Nat → Int32) × (Nat → Int32) × (Nat → Int32) × (Nat → Int32) × (Nat → Int32) × (Nat → Int32) × (Nat → Int32)) => match u with | (zj9, zb9, zl9, yt1, yt2, yt3, yt4, yt5, yt6, yt7, yt8, ysk) => r = m_X5_thick jg pb fet fso fmi fpa fki fmo fsz frd fct v0 v1 v2) (nI (g_X5_thick_30 fet fso fmi fpa fki fmo fsz frd fct v0 v1 v2)) ((nI jg), (nI pb), nI lw, yn1_32, (m_X0_go_n2 (nC v0) (nC v1) (nC v2) (upd fso (nC v0) (nI (g_X5_thick_30 fet fso fmi fpa fki fmo fsz frd fct v0 v1 v2))) fmi fpa fki fmo fsz frd fct fet), (m_X0_go_n3 (nC v0) (nC v1) (nC v2) (upd fso (nC v0) (nI (g_X5_thick_30 fet fso fmi fpa fki fmo fsz frd fct v0 v1 v2))) fmi fpa fki fmo fsz frd fct fet), (m_X0_go_n4 (nC v0) (nC v1) (nC v2) (upd fso (nC v0) (nI (g_X5_thick_30 fet fso fmi fpa fki fmo fsz frd fct v0 v1 v2))) fmi fpa fki fmo fsz frd fct fet), fki, fmo, (m_X0_go_n7 (nC v0) (nC v1) (nC v2) (upd fso (nC v0) (nI (g_X5_thick_30 fet fso fmi fpa fki fmo fsz frd fct v0 v1 v2))) fmi fpa fki fmo fsz frd fct fet), frd, ysk_33) := (show m_X5_thick jg pb fet fso fmi fpa fki fmo fsz frd fct v0 v1 v2 = (nI (g_X5_thick_30 fet fso fmi fpa fki fmo fsz frd fct v0 v1 v2)) from by unfold m_X5_thick; rw [if_pos p_4, if_pos p_13, if_neg c_17]).symm
              exact W.iret (v := (nI (g_X5_thick_30 fet fso fmi fpa fki fmo fsz frd fct v0 v1 v2))) hx hb hr (fun t ht hW => ⟨⟨(nI (g_X5_thick_30 fet fso fmi fpa fki fmo fsz frd fct v0 v1 v2)), ((nI jg), (nI pb), nI lw, yn1_32, (m_X0_go_n2 (nC v0) (nC v1) (nC v2) (upd fso (nC v0) (nI (g_X5_thick_30 fet fso fmi fpa fki fmo fsz frd fct v0 v1 v2))) fmi fpa fki fmo fsz frd fct fet), (m_X0_go_n3 (nC v0) (nC v1) (nC v2) (upd fso (nC v0) (nI (g_X5_thick_30 fet fso fmi fpa fki fmo fsz frd fct v0 v1 v2))) fmi fpa fki fmo fsz frd fct fet), (m_X0_go_n4 (nC v0) (nC v1) (nC v2) (upd fso (nC v0) (nI (g_X5_thick_30 fet fso fmi fpa fki fmo fsz frd fct v0 v1 v2))) fmi fpa fki fmo fsz frd fct fet), fki, fmo, (m_X0_go_n7 (nC v0) (nC v1) (nC v2) (upd fso (nC v0) (nI (g_X5_thick_30 fet fso fmi fpa fki fmo fsz frd fct v0 v1 v2))) fmi fpa fki fmo fsz frd fct fet), frd, ysk_33), rfl, hpost, by rw [ht]; exact hP, va_K.moved hW.alike hK, hD⟩, hS.F ht⟩) hS.2.2 dX5_thick_76
      exact loop_30 (21 - 0 + 1) 0 unm fsk uso umi upa uki umo usz urd tj tb tl (by omega) (rfl) (by omega) _ _ hP hD hS ls hl
    · skip
      have n_14 : ¬ (0 ≤ v2 ∧ v2 ≤ 60) := of_decide_eq_false (bz_eq rfl c_12)
      refine lv_bipush (v := -7) hx hb dX5_thick_24 (by decide +kernel) ?_
      have hpost : (fun (r : Int32) (u : Int32 × Int32 × Int32 × (Nat → Int32) × (Nat → Int32) × (Nat → Int32) × (Nat → Int32) × (Nat → Int32) × (Nat → Int32) × (Nat → Int32) × (Nat → Int32) × (Nat → Int32)) => match u with | (zj9, zb9, zl9, yt1, yt2, yt3, yt4, yt5, yt6, yt7, yt8, ysk) => r = m_X5_thick jg pb fet fso fmi fpa fki fmo fsz frd fct v0 v1 v2) (-7) (tj, tb, tl, unm, uso, umi, upa, uki, umo, usz, urd, fsk) := (show m_X5_thick jg pb fet fso fmi fpa fki fmo fsz frd fct v0 v1 v2 = (-7) from by unfold m_X5_thick; rw [if_pos p_4, if_neg n_14]).symm
      exact W.iret (v := (-7)) hx hb hr (fun t ht hW => ⟨⟨(-7), (tj, tb, tl, unm, uso, umi, upa, uki, umo, usz, urd, fsk), rfl, hpost, by rw [ht]; exact hP, va_K.moved hW.alike hK, hD⟩, hS.F ht⟩) hS.2.2 dX5_thick_26
  · skip
    have n_5 : (mBoth jg pb v0 v1) = false := bz_eq rfl c_3
    have n_5N : ¬ ((mBoth jg pb v0 v1) = true) := by rw [n_5]; decide
    refine lv_bipush (v := -5) hx hb dX5_thick_12 (by decide +kernel) ?_
    have hpost : (fun (r : Int32) (u : Int32 × Int32 × Int32 × (Nat → Int32) × (Nat → Int32) × (Nat → Int32) × (Nat → Int32) × (Nat → Int32) × (Nat → Int32) × (Nat → Int32) × (Nat → Int32) × (Nat → Int32)) => match u with | (zj9, zb9, zl9, yt1, yt2, yt3, yt4, yt5, yt6, yt7, yt8, ysk) => r = m_X5_thick jg pb fet fso fmi fpa fki fmo fsz frd fct v0 v1 v2) (-5) (tj, tb, tl, unm, uso, umi, upa, uki, umo, usz, urd, fsk) := (show m_X5_thick jg pb fet fso fmi fpa fki fmo fsz frd fct v0 v1 v2 = (-5) from by unfold m_X5_thick; rw [if_neg n_5N]).symm
    exact W.iret (v := (-5)) hx hb hr (fun t ht hW => ⟨⟨(-5), (tj, tb, tl, unm, uso, umi, upa, uki, umo, usz, urd, fsk), rfl, hpost, by rw [ht]; exact hP, va_K.moved hW.alike hK, hD⟩, hS.F ht⟩) hS.2.2 dX5_thick_14
noncomputable def m_X5_drawn (jg : Nat) (pb : Nat) (fet : Nat → Nat) (fso : Nat → Int32) (fmi : Nat → Int32) (fpa : Nat → Int32) (fki : Nat → Int32) (fmo : Nat → Int32) (fsz : Nat → Int32) (frd : Nat → Int32) (fct : Nat → Int32) (v0 : Int32) (v1 : Int32) (v2 : Int32) (v3 : Int32) (v4 : Int32) : Int32 := if (mBoth jg pb v1 v2) = true then (if 0 ≤ v0 ∧ v0 ≤ 99999 then (if (mMil v3) = true then (if 0 ≤ v4 ∧ v4 ≤ 2 then m_X5_outcome fet (m_X0_goByLots_n2 (nC v1) (nC v2) (nC v3) fso fmi fpa fki fmo fsz frd fct fet (nI (nC v0))) (m_X0_goByLots_n3 (nC v1) (nC v2) (nC v3) fso fmi fpa fki fmo fsz frd fct fet (nI (nC v0))) fmo (m_X0_goByLots_n7 (nC v1) (nC v2) (nC v3) fso fmi fpa fki fmo fsz frd fct fet (nI (nC v0))) frd fct (nC v1) (nC v2) (m_X0_goByLots (nC v1) (nC v2) (nC v3) fso fmi fpa fki fmo fsz frd fct fet (nI (nC v0))) (nI (nC v4)) else -7) else -7) else -7) else -5
noncomputable def m_X5_drawn_th9 (jg : Nat) (pb : Nat) (tj : Int32) (v0 : Int32) (v1 : Int32) (v2 : Int32) (v3 : Int32) (v4 : Int32) : Int32 := if (mBoth jg pb v1 v2) = true then (if 0 ≤ v0 ∧ v0 ≤ 99999 then (if (mMil v3) = true then (if 0 ≤ v4 ∧ v4 ≤ 2 then (nI jg) else tj) else tj) else tj) else tj
noncomputable def m_X5_drawn_th10 (jg : Nat) (pb : Nat) (tb : Int32) (v0 : Int32) (v1 : Int32) (v2 : Int32) (v3 : Int32) (v4 : Int32) : Int32 := if (mBoth jg pb v1 v2) = true then (if 0 ≤ v0 ∧ v0 ≤ 99999 then (if (mMil v3) = true then (if 0 ≤ v4 ∧ v4 ≤ 2 then (nI pb) else tb) else tb) else tb) else tb
noncomputable def m_X5_drawn_th11 (jg : Nat) (pb : Nat) (lw : Nat) (tl : Int32) (v0 : Int32) (v1 : Int32) (v2 : Int32) (v3 : Int32) (v4 : Int32) : Int32 := if (mBoth jg pb v1 v2) = true then (if 0 ≤ v0 ∧ v0 ≤ 99999 then (if (mMil v3) = true then (if 0 ≤ v4 ∧ v4 ≤ 2 then nI lw else tl) else tl) else tl) else tl
abbrev q_X5_drawn (G : gG) (h0 tt rd nw th kp sh tu n1 n2 n3 n4 n5 n6 n7 n8 t1 t2 t3 t4 t5 t6 t7 t8 co en sk ct et : Nat) (jg : Nat) (pb : Nat) (lw : Nat) (tx : Nat) (him : Int32) (wr : Int32) (tj : Int32) (tb : Int32) (tl : Int32) (fc : Nat → Option Nat) (fe : Nat → Option Nat) (fet : Nat → Nat) (fso : Nat → Int32) (fmi : Nat → Int32) (fpa : Nat → Int32) (fki : Nat → Int32) (fmo : Nat → Int32) (fsz : Nat → Int32) (frd : Nat → Int32) (unm : Nat → Int32) (uso : Nat → Int32) (umi : Nat → Int32) (upa : Nat → Int32) (uki : Nat → Int32) (umo : Nat → Int32) (usz : Nat → Int32) (urd : Nat → Int32) (fct : Nat → Int32) (fsk : Nat → Int32) (v0 : Int32) (v1 : Int32) (v2 : Int32) (v3 : Int32) (v4 : Int32) (A : Nat → Prop) : Array Value → State → Outcome → State → Prop := va_Qi (fun (r : Int32) (u : (Nat → Int32) × (Nat → Int32) × (Nat → Int32) × (Nat → Int32) × (Nat → Int32) × (Nat → Int32) × (Nat → Int32) × (Nat → Int32) × (Nat → Int32)) => match u with | (yt1, yt2, yt3, yt4, yt5, yt6, yt7, yt8, ysk) => r = m_X5_drawn jg pb fet fso fmi fpa fki fmo fsz frd fct v0 v1 v2 v3 v4) (fun (u : (Nat → Int32) × (Nat → Int32) × (Nat → Int32) × (Nat → Int32) × (Nat → Int32) × (Nat → Int32) × (Nat → Int32) × (Nat → Int32) × (Nat → Int32)) t => match u with | (yt1, yt2, yt3, yt4, yt5, yt6, yt7, yt8, ysk) => va_P G.1 vwCl [zo5 h0 tt rd nw th kp sh tu him, zo0 nw tt n1 n2 n3 n4 n5 n6 n7 n8 (nI jg) (nI pb) (nI lw), zi G n2 4 fso, zi G n3 4 fmi, zi G n4 4 fpa, zi G n5 6 fki, zi G n6 6 fmo, zi G n7 6 fsz, zi G n8 6 frd, zo0 th tt t1 t2 t3 t4 t5 t6 t7 t8 (m_X5_drawn_th9 jg pb tj v0 v1 v2 v3 v4) (m_X5_drawn_th10 jg pb tb v0 v1 v2 v3 v4) (m_X5_drawn_th11 jg pb lw tl v0 v1 v2 v3 v4), zi G t1 6 yt1, zi G t2 4 yt2, zi G t3 4 yt3, zi G t4 4 yt4, zi G t5 6 yt5, zi G t6 6 yt6, zi G t7 6 yt7, zi G t8 6 yt8, zo3 tt co en sk wr (nI tx), zr G co 6 fc, zr G en 6 fe, zi G ct 160 fct, zi G et 3 (nF fet), zi G sk 32 ysk] t.heap ∧ gK G t ∧ va_D A [zo5 h0 tt rd nw th kp sh tu him, zo0 nw tt n1 n2 n3 n4 n5 n6 n7 n8 (nI jg) (nI pb) (nI lw), zi G n2 4 fso, zi G n3 4 fmi, zi G n4 4 fpa, zi G n5 6 fki, zi G n6 6 fmo, zi G n7 6 fsz, zi G n8 6 frd, zo0 th tt t1 t2 t3 t4 t5 t6 t7 t8 (m_X5_drawn_th9 jg pb tj v0 v1 v2 v3 v4) (m_X5_drawn_th10 jg pb tb v0 v1 v2 v3 v4) (m_X5_drawn_th11 jg pb lw tl v0 v1 v2 v3 v4), zi G t1 6 yt1, zi G t2 4 yt2, zi G t3 4 yt3, zi G t4 4 yt4, zi G t5 6 yt5, zi G t6 6 yt6, zi G t7 6 yt7, zi G t8 6 yt8, zo3 tt co en sk wr (nI tx), zr G co 6 fc, zr G en 6 fe, zi G ct 160 fct, zi G et 3 (nF fet), zi G sk 32 ysk]) A
set_option maxHeartbeats 4000000 in
set_option maxRecDepth 100000 in
theorem c_X5_drawn (l : Launch) (G : gG) (h0 tt rd nw th kp sh tu n1 n2 n3 n4 n5 n6 n7 n8 t1 t2 t3 t4 t5 t6 t7 t8 co en sk ct et : Nat) (jg : Nat) (pb : Nat) (lw : Nat) (tx : Nat) (him : Int32) (wr : Int32) (tj : Int32) (tb : Int32) (tl : Int32) (fc : Nat → Option Nat) (fe : Nat → Option Nat) (fet : Nat → Nat) (fso : Nat → Int32) (fmi : Nat → Int32) (fpa : Nat → Int32) (fki : Nat → Int32) (fmo : Nat → Int32) (fsz : Nat → Int32) (frd : Nat → Int32) (unm : Nat → Int32) (uso : Nat → Int32) (umi : Nat → Int32) (upa : Nat → Int32) (uki : Nat → Int32) (umo : Nat → Int32) (usz : Nat → Int32) (urd : Nat → Int32) (fct : Nat → Int32) (fsk : Nat → Int32) (v0 : Int32) (v1 : Int32) (v2 : Int32) (v3 : Int32) (v4 : Int32) (sz : Nat) (htn : lw < tx ∧ tx ≤ 6) (hc : fc lw = some ct) (he : fe lw = some et) (hwx : mWx fct fet) (hjg : jg ≤ 4) (hpb : pb ≤ 6) : Met l yX5_drawn wsX5_drawn ({ frames := 5, cells := 0, slots := 0, locals := 441 }) (gPre G [.ref h0, .int v0, .int v1, .int v2, .int v3, .int v4] [zo5 h0 tt rd nw th kp sh tu him, zo0 nw tt n1 n2 n3 n4 n5 n6 n7 n8 (nI jg) (nI pb) (nI lw), zi G n2 4 fso, zi G n3 4 fmi, zi G n4 4 fpa, zi G n5 6 fki, zi G n6 6 fmo, zi G n7 6 fsz, zi G n8 6 frd, zo0 th tt t1 t2 t3 t4 t5 t6 t7 t8 tj tb tl, zi G t1 6 unm, zi G t2 4 uso, zi G t3 4 umi, zi G t4 4 upa, zi G t5 6 uki, zi G t6 6 umo, zi G t7 6 usz, zi G t8 6 urd, zo3 tt co en sk wr (nI tx), zr G co 6 fc, zr G en 6 fe, zi G ct 160 fct, zi G et 3 (nF fet), zi G sk 32 fsk] sz) (q_X5_drawn G h0 tt rd nw th kp sh tu n1 n2 n3 n4 n5 n6 n7 n8 t1 t2 t3 t4 t5 t6 t7 t8 co en sk ct et jg pb lw tx him wr tj tb tl fc fe fet fso fmi fpa fki fmo fsz frd unm uso umi upa uki umo usz urd fct fsk v0 v1 v2 v3 v4 (va_A [zo5 h0 tt rd nw th kp sh tu him, zo0 nw tt n1 n2 n3 n4 n5 n6 n7 n8 (nI jg) (nI pb) (nI lw), zi G n2 4 fso, zi G n3 4 fmi, zi G n4 4 fpa, zi G n5 6 fki, zi G n6 6 fmo, zi G n7 6 fsz, zi G n8 6 frd, zo0 th tt t1 t2 t3 t4 t5 t6 t7 t8 tj tb tl, zi G t1 6 unm, zi G t2 4 uso, zi G t3 4 umi, zi G t4 4 upa, zi G t5 6 uki, zi G t6 6 umo, zi G t7 6 usz, zi G t8 6 urd, zo3 tt co en sk wr (nI tx), zr G co 6 fc, zr G en 6 fe, zi G ct 160 fct, zi G et 3 (nF fet), zi G sk 32 fsk] sz)) 0 0 (va_A [zo5 h0 tt rd nw th kp sh tu him, zo0 nw tt n1 n2 n3 n4 n5 n6 n7 n8 (nI jg) (nI pb) (nI lw), zi G n2 4 fso, zi G n3 4 fmi, zi G n4 4 fpa, zi G n5 6 fki, zi G n6 6 fmo, zi G n7 6 fsz, zi G n8 6 frd, zo0 th tt t1 t2 t3 t4 t5 t6 t7 t8 tj tb tl, zi G t1 6 unm, zi G t2 4 uso, zi G t3 4 umi, zi G t4 4 upa, zi G t5 6 uki, zi G t6 6 umo, zi G t7 6 usz, zi G t8 6 urd, zo3 tt co en sk wr (nI tx), zr G co 6 fc, zr G en 6 fe, zi G ct 160 fct, zi G et 3 (nF fet), zi G sk 32 fsk] sz) := by
  refine Met.ofW (cc := cX5_drawn) (maxL := 7) (ret := (some .int)) (by decide +kernel) rfl ?_
  intro p e s m args below meth c s₁ B hml hv
  obtain ⟨rfl, hsz, hP, hK, hD0⟩ := hv
  have hx := B.exec
  have hb := B.bytes
  have hr := B.returns
  have hts := atoms_spec (ws := wsX5_drawn) B.pre
  have hown : s.vm.findClass RX5 = some m.cls := findClass_of_methodNamed B.named
  have hlocks := B.notSynchronized
  subst hsz
  have hD := hD0.self (sz := s.heap.size)
  generalize hAe : va_A [zo5 h0 tt rd nw th kp sh tu him, zo0 nw tt n1 n2 n3 n4 n5 n6 n7 n8 (nI jg) (nI pb) (nI lw), zi G n2 4 fso, zi G n3 4 fmi, zi G n4 4 fpa, zi G n5 6 fki, zi G n6 6 fmo, zi G n7 6 fsz, zi G n8 6 frd, zo0 th tt t1 t2 t3 t4 t5 t6 t7 t8 tj tb tl, zi G t1 6 unm, zi G t2 4 uso, zi G t3 4 umi, zi G t4 4 upa, zi G t5 6 uki, zi G t6 6 umo, zi G t7 6 usz, zi G t8 6 urd, zo3 tt co en sk wr (nI tx), zr G co 6 fc, zr G en 6 fe, zi G ct 160 fct, zi G et 3 (nF fet), zi G sk 32 fsk] s.heap.size = A at hD ⊢
  have hA : ∀ q : Nat, s.heap.size ≤ q → A q := fun q h => by rw [← hAe]; exact Or.inr h
  have hS : va_S A s.heap s.heap [] := va_S.rf
  have hz9 : gPD G A [zo5 h0 tt rd nw th kp sh tu him, zo0 nw tt n1 n2 n3 n4 n5 n6 n7 n8 (nI jg) (nI pb) (nI lw), zi G n2 4 fso, zi G n3 4 fmi, zi G n4 4 fpa, zi G n5 6 fki, zi G n6 6 fmo, zi G n7 6 fsz, zi G n8 6 frd, zo0 th tt t1 t2 t3 t4 t5 t6 t7 t8 tj tb tl, zi G t1 6 unm, zi G t2 4 uso, zi G t3 4 umi, zi G t4 4 upa, zi G t5 6 uki, zi G t6 6 umo, zi G t7 6 usz, zi G t8 6 urd, zo3 tt co en sk wr (nI tx), zr G co 6 fc, zr G en 6 fe, zi G ct 160 fct, zi G et 3 (nF fet), zi G sk 32 fsk] s.heap := ⟨hP, hD⟩
  have hP := hz9.1
  have hD := hz9.2
  have hl := lv_entry ([.ref h0, .int v0, .int v1, .int v2, .int v3, .int v4]) (n := 7) (Nat.le_of_ble_eq_true rfl)
  rw [lg_entry_eq]
  generalize (lg_sl ([.ref h0, .int v0, .int v1, .int v2, .int v3, .int v4]) ++ List.replicate (7 - (lg_sl ([.ref h0, .int v0, .int v1, .int v2, .int v3, .int v4])).length) Slot.unset).toArray = ls at hl ⊢
  have hl : lv_has ls 7 [zR 0 h0, zI 1 v0, zI 2 v1, zI 3 v2, zI 4 v3, zI 5 v4] := hl
  have kf28 := hts (.fieldLink RX5 28 "PebbleInShoe" "now" "LPebbleInShoe$Court;") (by decide +kernel)
  have hiX5 := (by decide +kernel : ∀ w ∈ wsX50, w ∈ wsX5_drawn)
  have kf32 := hts (.fieldLink RX5 32 "PebbleInShoe" "thought" "LPebbleInShoe$Court;") (by decide +kernel)
  refine g_aget (D := G.1) (ci := 5) (v := .ref nw) (C := RX5) (T := TX5) (N := 8) hx hb dX5_drawn_0 rfl (lv_at hl 0 rfl) hts hiX5 hown hK hP 0 rfl rfl 2 (by decide +kernel) kf28 (fun _ h9 => h9) rfl dX5_drawn_1 ?_
  refine lv_iload_n hx hb dX5_drawn_4 rfl (lv_at hl 2 rfl) ?_
  refine lv_iload_n hx hb dX5_drawn_5 rfl (lv_at hl 3 rfl) ?_
  refine z_calli [1] (v := bz (mBoth jg pb v1 v2)) (fun _ _ h => h) (va_runV (As := [.int v1, .int v2]) (rest := []) ⟨hx, hb, hml, hown, hts⟩ (c_X0_hasBoth_g l G nw tt n1 n2 n3 n4 n5 n6 n7 n8 jg pb lw v1 v2 s.heap.size (by first | exact hjg | assumption | omega) (by first | exact hpb | assumption | omega)) (cwV 2 hts gX5_drawn_X0_hasBoth rfl rfl rfl (by decide +kernel) ⟨Nat.le_of_ble_eq_true rfl, Nat.le_of_ble_eq_true rfl⟩) ⟨gPre_blind, va_recv (q := (RX0, TX0, 12)) hK hP (ci := 0) (q0 := 1) rfl rfl, fun U hU hW => gPre_ofF [1] hU hW hK hP hD (by decide +kernel) rfl⟩ rfl rfl hl.1 rfl (lv_room (Nat.le_of_ble_eq_true rfl)) dX5_drawn_6 ⟨Nat.le_of_ble_eq_true rfl, Nat.le_of_ble_eq_true rfl⟩) hS hD hA rfl (fun u t H locs ht hvm hB hz1 hk1 hFq hAq hS => ?_)
  obtain ⟨hP1, hK1, hD1⟩ := hB
  have hP := zKeep hP hD [1] hAq hk1 ht hP1 rfl
  refine lv_if_ne (tgt := 15) hx hb dX5_drawn_9 (by decide +kernel) (fun c_3 => ?_) (fun c_3 => ?_)
  · skip
    have p_4 : (mBoth jg pb v1 v2) = true := bz_ne rfl c_3
    have hv_6 : v1 = nI (nC v1) := mHas_eq (mBoth_1 p_4)
    have hk_7 : nC v1 < jg := mHas_lt (by omega) (mBoth_1 p_4)
    have hv_8 : v2 = nI (nC v2) := mHas_eq (mBoth_2 p_4)
    have hk_9 : nC v2 < pb := mHas_lt (by omega) (mBoth_2 p_4)
    refine lv_iload_n hx hb dX5_drawn_15 rfl (lv_at hl 1 rfl) ?_
    refine lv_ldc hx hb hown (hts (.constant RX5 206 (99999)) (by decide +kernel)) dX5_drawn_16 ?_
    refine z_calli [] (v := bz (decide (0 ≤ v0 ∧ v0 ≤ 99999))) (fun _ _ h => h) (va_runS (As := [.int v0, .int 99999]) (rest := []) ⟨hx, hb, hml, hown, hts⟩ (c_X5_within_g l G v0 99999 H.size) (va_cwS 2 hts gX5_drawn_X5_within rfl rfl rfl (by decide +kernel) ⟨Nat.le_of_ble_eq_true rfl, Nat.le_of_ble_eq_true rfl⟩) ⟨gPre_blind, fun U hU hW => gPre_ofF [] hU hW hK hP hD (by decide +kernel) rfl⟩ rfl rfl hl.1 rfl (lv_room (Nat.le_of_ble_eq_true rfl)) dX5_drawn_18 ⟨Nat.le_of_ble_eq_true rfl, Nat.le_of_ble_eq_true rfl⟩) hS hD hA rfl (fun u t H locs ht hvm hB hz1 hk1 hFq hAq hS => ?_)
    obtain ⟨hP1, hK1, hD1⟩ := hB
    have hP := zKeep hP hD [] hAq hk1 ht hP1 rfl
    refine lv_if_eq (tgt := 41) hx hb dX5_drawn_21 (by decide +kernel) (fun c_12 => ?_) (fun c_12 => ?_)
    · skip
      have n_14 : ¬ (0 ≤ v0 ∧ v0 ≤ 99999) := of_decide_eq_false (bz_eq rfl c_12)
      refine lv_bipush (v := -7) hx hb dX5_drawn_41 (by decide +kernel) ?_
      have q_17 : m_X5_drawn_th9 jg pb tj v0 v1 v2 v3 v4 = tj := by unfold m_X5_drawn_th9; rw [if_pos p_4, if_neg n_14]
      have q_18 : m_X5_drawn_th10 jg pb tb v0 v1 v2 v3 v4 = tb := by unfold m_X5_drawn_th10; rw [if_pos p_4, if_neg n_14]
      have q_19 : m_X5_drawn_th11 jg pb lw tl v0 v1 v2 v3 v4 = tl := by unfold m_X5_drawn_th11; rw [if_pos p_4, if_neg n_14]
      have hz9 : gPD G A [zo5 h0 tt rd nw th kp sh tu him, zo0 nw tt n1 n2 n3 n4 n5 n6 n7 n8 (nI jg) (nI pb) (nI lw), zi G n2 4 fso, zi G n3 4 fmi, zi G n4 4 fpa, zi G n5 6 fki, zi G n6 6 fmo, zi G n7 6 fsz, zi G n8 6 frd, zo0 th tt t1 t2 t3 t4 t5 t6 t7 t8 (m_X5_drawn_th9 jg pb tj v0 v1 v2 v3 v4) (m_X5_drawn_th10 jg pb tb v0 v1 v2 v3 v4) (m_X5_drawn_th11 jg pb lw tl v0 v1 v2 v3 v4), zi G t1 6 unm, zi G t2 4 uso, zi G t3 4 umi, zi G t4 4 upa, zi G t5 6 uki, zi G t6 6 umo, zi G t7 6 usz, zi G t8 6 urd, zo3 tt co en sk wr (nI tx), zr G co 6 fc, zr G en 6 fe, zi G ct 160 fct, zi G et 3 (nF fet), zi G sk 32 fsk] H := ⟨by rw [q_17, q_18, q_19]; exact hP, by rw [q_17, q_18, q_19]; exact hD⟩
      have hP9 := hz9.1
      have hD9 := hz9.2
      have hpost : (fun (r : Int32) (u : (Nat → Int32) × (Nat → Int32) × (Nat → Int32) × (Nat → Int32) × (Nat → Int32) × (Nat → Int32) × (Nat → Int32) × (Nat → Int32) × (Nat → Int32)) => match u with | (yt1, yt2, yt3, yt4, yt5, yt6, yt7, yt8, ysk) => r = m_X5_drawn jg pb fet fso fmi fpa fki fmo fsz frd fct v0 v1 v2 v3 v4) (-7) (unm, uso, umi, upa, uki, umo, usz, urd, fsk) := (show m_X5_drawn jg pb fet fso fmi fpa fki fmo fsz frd fct v0 v1 v2 v3 v4 = (-7) from by unfold m_X5_drawn; rw [if_pos p_4, if_neg n_14]).symm
      exact W.iret (v := (-7)) hx hb hr (fun t ht hW => ⟨⟨(-7), (unm, uso, umi, upa, uki, umo, usz, urd, fsk), rfl, hpost, by rw [ht]; exact hP9, va_K.moved hW.alike hK, hD9⟩, hS.F ht⟩) hS.2.2 dX5_drawn_43
    · skip
      have p_13 : 0 ≤ v0 ∧ v0 ≤ 99999 := of_decide_eq_true (bz_ne rfl c_12)
      have hv_15 : v0 = nI (nC v0) := nC_eq p_13.1
      have hk_16 : nC v0 ≤ 99999 := nC_le (n := 99999) (by omega) p_13
      refine lv_iload hx hb dX5_drawn_24 (lv_at hl 4 rfl) ?_
      refine z_calli [] (v := bz (mMil v3)) (fun _ _ h => h) (va_runS (As := [.int v3]) (rest := []) ⟨hx, hb, hml, hown, hts⟩ (c_X5_isMoreMiles l G v3 H.size) (va_cwS 1 hts gX5_drawn_X5_isMoreMiles rfl rfl rfl (by decide +kernel) ⟨Nat.le_of_ble_eq_true rfl, Nat.le_of_ble_eq_true rfl⟩) ⟨gPre_blind, fun U hU hW => gPre_ofF [] hU hW hK hP hD (by decide +kernel) rfl⟩ rfl rfl hl.1 rfl (lv_room (Nat.le_of_ble_eq_true rfl)) dX5_drawn_26 ⟨Nat.le_of_ble_eq_true rfl, Nat.le_of_ble_eq_true rfl⟩) hS hD hA rfl (fun u t H locs ht hvm hB hz1 hk1 hFq hAq hS => ?_)
      obtain ⟨hP1, hK1, hD1⟩ := hB
      have hP := zKeep hP hD [] hAq hk1 ht hP1 rfl
      refine lv_if_eq (tgt := 41) hx hb dX5_drawn_29 (by decide +kernel) (fun c_22 => ?_) (fun c_22 => ?_)
      · skip
        have n_24 : (mMil v3) = false := bz_eq rfl c_22
        have n_24N : ¬ ((mMil v3) = true) := by rw [n_24]; decide
        refine lv_bipush (v := -7) hx hb dX5_drawn_41 (by decide +kernel) ?_
        have q_28 : m_X5_drawn_th9 jg pb tj v0 v1 v2 v3 v4 = tj := by unfold m_X5_drawn_th9; rw [if_pos p_4, if_pos p_13, if_neg n_24N]
        have q_29 : m_X5_drawn_th10 jg pb tb v0 v1 v2 v3 v4 = tb := by unfold m_X5_drawn_th10; rw [if_pos p_4, if_pos p_13, if_neg n_24N]
        have q_30 : m_X5_drawn_th11 jg pb lw tl v0 v1 v2 v3 v4 = tl := by unfold m_X5_drawn_th11; rw [if_pos p_4, if_pos p_13, if_neg n_24N]
        have hz9 : gPD G A [zo5 h0 tt rd nw th kp sh tu him, zo0 nw tt n1 n2 n3 n4 n5 n6 n7 n8 (nI jg) (nI pb) (nI lw), zi G n2 4 fso, zi G n3 4 fmi, zi G n4 4 fpa, zi G n5 6 fki, zi G n6 6 fmo, zi G n7 6 fsz, zi G n8 6 frd, zo0 th tt t1 t2 t3 t4 t5 t6 t7 t8 (m_X5_drawn_th9 jg pb tj v0 v1 v2 v3 v4) (m_X5_drawn_th10 jg pb tb v0 v1 v2 v3 v4) (m_X5_drawn_th11 jg pb lw tl v0 v1 v2 v3 v4), zi G t1 6 unm, zi G t2 4 uso, zi G t3 4 umi, zi G t4 4 upa, zi G t5 6 uki, zi G t6 6 umo, zi G t7 6 usz, zi G t8 6 urd, zo3 tt co en sk wr (nI tx), zr G co 6 fc, zr G en 6 fe, zi G ct 160 fct, zi G et 3 (nF fet), zi G sk 32 fsk] H := ⟨by rw [q_28, q_29, q_30]; exact hP, by rw [q_28, q_29, q_30]; exact hD⟩
        have hP9 := hz9.1
        have hD9 := hz9.2
        have hpost : (fun (r : Int32) (u : (Nat → Int32) × (Nat → Int32) × (Nat → Int32) × (Nat → Int32) × (Nat → Int32) × (Nat → Int32) × (Nat → Int32) × (Nat → Int32) × (Nat → Int32)) => match u with | (yt1, yt2, yt3, yt4, yt5, yt6, yt7, yt8, ysk) => r = m_X5_drawn jg pb fet fso fmi fpa fki fmo fsz frd fct v0 v1 v2 v3 v4) (-7) (unm, uso, umi, upa, uki, umo, usz, urd, fsk) := (show m_X5_drawn jg pb fet fso fmi fpa fki fmo fsz frd fct v0 v1 v2 v3 v4 = (-7) from by unfold m_X5_drawn; rw [if_pos p_4, if_pos p_13, if_neg n_24N]).symm
        exact W.iret (v := (-7)) hx hb hr (fun t ht hW => ⟨⟨(-7), (unm, uso, umi, upa, uki, umo, usz, urd, fsk), rfl, hpost, by rw [ht]; exact hP9, va_K.moved hW.alike hK, hD9⟩, hS.F ht⟩) hS.2.2 dX5_drawn_43
      · skip
        have p_23 : (mMil v3) = true := bz_ne rfl c_22
        have hv_25 : v3 = nI (nC v3) := mMil_eq p_23
        have hk_26 : nC v3 ≤ 960 := mMil_le p_23
        have hk_27 : nC v3 % 100 ≤ 60 := mMil_rem p_23
        refine lv_iload hx hb dX5_drawn_32 (lv_at hl 5 rfl) ?_
        refine lv_iconst (v := 2) hx hb dX5_drawn_34 (by decide +kernel) ?_
        refine z_calli [] (v := bz (decide (0 ≤ v4 ∧ v4 ≤ 2))) (fun _ _ h => h) (va_runS (As := [.int v4, .int 2]) (rest := []) ⟨hx, hb, hml, hown, hts⟩ (c_X5_within_g l G v4 2 H.size) (va_cwS 2 hts gX5_drawn_X5_within rfl rfl rfl (by decide +kernel) ⟨Nat.le_of_ble_eq_true rfl, Nat.le_of_ble_eq_true rfl⟩) ⟨gPre_blind, fun U hU hW => gPre_ofF [] hU hW hK hP hD (by decide +kernel) rfl⟩ rfl rfl hl.1 rfl (lv_room (Nat.le_of_ble_eq_true rfl)) dX5_drawn_35 ⟨Nat.le_of_ble_eq_true rfl, Nat.le_of_ble_eq_true rfl⟩) hS hD hA rfl (fun u t H locs ht hvm hB hz1 hk1 hFq hAq hS => ?_)
        obtain ⟨hP1, hK1, hD1⟩ := hB
        have hP := zKeep hP hD [] hAq hk1 ht hP1 rfl
        refine lv_if_ne (tgt := 44) hx hb dX5_drawn_38 (by decide +kernel) (fun c_33 => ?_) (fun c_33 => ?_)
        · skip
          have p_34 : 0 ≤ v4 ∧ v4 ≤ 2 := of_decide_eq_true (bz_ne rfl c_33)
          have hv_36 : v4 = nI (nC v4) := nC_eq p_34.1
          have hk_37 : nC v4 ≤ 2 := nC_le (n := 2) (by omega) p_34
          refine lv_aload_n hx hb dX5_drawn_44 rfl (lv_at hl 0 rfl) ?_
          refine z_callv [0, 1, 2, 3, 4, 5, 6, 7, 8, 9, 11, 12, 13, 14, 15, 16, 17] (va_runV (As := []) (rest := []) ⟨hx, hb, hml, hown, hts⟩ (c_X5_think l G h0 tt rd nw th kp sh tu n1 n2 n3 n4 n5 n6 n7 n8 t1 t2 t3 t4 t5 t6 t7 t8 jg pb lw him tj tb tl fso fmi fpa fki fmo fsz frd uso umi upa uki umo usz urd H.size (by first | exact hjg | assumption | omega) (by first | exact hpb | assumption | omega)) (cwV 0 hts gX5_drawn_X5_think rfl rfl rfl (by decide +kernel) ⟨Nat.le_of_ble_eq_true rfl, Nat.le_of_ble_eq_true rfl⟩) ⟨gPre_blind, va_recv (q := (RX5, TX5, 8)) hK hP (ci := 5) (q0 := 0) rfl rfl, fun U hU hW => gPre_ofF [0, 1, 2, 3, 4, 5, 6, 7, 8, 9, 11, 12, 13, 14, 15, 16, 17] hU hW hK hP hD (by decide +kernel) rfl⟩ rfl rfl hl.1 rfl (lv_room (Nat.le_of_ble_eq_true rfl)) dX5_drawn_45 ⟨Nat.le_of_ble_eq_true rfl, Nat.le_of_ble_eq_true rfl⟩) hS hD hA rfl (fun u t H locs ht hvm w_39 hB hz1 hk1 hFq hAq hS => ?_)
          obtain ⟨hP1, hK1, hD1⟩ := hB
          have hz9 : gPD G A [zo5 h0 tt rd nw th kp sh tu him, zo0 nw tt n1 n2 n3 n4 n5 n6 n7 n8 (nI jg) (nI pb) (nI lw), zi G n2 4 fso, zi G n3 4 fmi, zi G n4 4 fpa, zi G n5 6 fki, zi G n6 6 fmo, zi G n7 6 fsz, zi G n8 6 frd, zo0 th tt t1 t2 t3 t4 t5 t6 t7 t8 (nI jg) (nI pb) (nI lw), zi G t1 6 unm, zi G t2 4 fso, zi G t3 4 fmi, zi G t4 4 fpa, zi G t5 6 fki, zi G t6 6 fmo, zi G t7 6 fsz, zi G t8 6 frd, zo3 tt co en sk wr (nI tx), zr G co 6 fc, zr G en 6 fe, zi G ct 160 fct, zi G et 3 (nF fet), zi G sk 32 fsk] H := zFill hP hD [0, 1, 2, 3, 4, 5, 6, 7, 8, 9, 11, 12, 13, 14, 15, 16, 17] [1, 2, 3, 4, 5, 6, 7, 8, 9, 10, 0, 11, 12, 13, 14, 15, 16, 17] hAq hk1 hFq ht hP1 hD1 rfl (by decide +kernel)
          have hP := hz9.1
          have hD := hz9.2
          refine g_aget (D := G.1) (ci := 5) (v := .ref th) (C := RX5) (T := TX5) (N := 8) hx hb dX5_drawn_48 rfl (lv_at hl 0 rfl) hts hiX5 hown hK hP 0 rfl rfl 3 (by decide +kernel) kf32 (fun _ h9 => h9) rfl dX5_drawn_49 ?_
          refine lv_iload_n hx hb dX5_drawn_52 rfl (lv_at hl 1 rfl) ?_
          refine g_topi (y := nI (nC v0)) hv_15 ?_
          refine lv_iload_n hx hb dX5_drawn_53 rfl (lv_at hl 2 rfl) ?_
          refine g_topi (y := nI (nC v1)) hv_6 ?_
          refine lv_iload_n hx hb dX5_drawn_54 rfl (lv_at hl 3 rfl) ?_
          refine g_topi (y := nI (nC v2)) hv_8 ?_
          refine lv_iload hx hb dX5_drawn_55 (lv_at hl 4 rfl) ?_
          refine g_topi (y := nI (nC v3)) hv_25 ?_
          refine z_calli [9, 10, 11, 12, 13, 14, 15, 16, 17, 18, 19, 20, 21, 22, 23] (v := m_X0_goByLots (nC v1) (nC v2) (nC v3) fso fmi fpa fki fmo fsz frd fct fet (nI (nC v0))) (fun _ ⟨_, _⟩ h => h) (va_runV (As := [.int (nI (nC v0)), .int (nI (nC v1)), .int (nI (nC v2)), .int (nI (nC v3))]) (rest := []) ⟨hx, hb, hml, hown, hts⟩ (c_X0_goByLots l G th tt t1 t2 t3 t4 t5 t6 t7 t8 co en sk ct et lw (nC v1) (nC v2) (nC v3) tx (nI jg) (nI pb) wr unm fso fmi fpa fki fmo fsz frd fc fe fct fet fsk (nI (nC v0)) H.size (by first | exact hj | assumption | omega) (by first | exact hp | assumption | omega) (by first | exact hmm | assumption | omega) (by first | exact hm6 | assumption | omega) (by first | exact htn | assumption | omega) (by first | exact hc | assumption | omega) (by first | exact he | assumption | omega) (by first | exact hwx | assumption | omega)) (cwV 4 hts gX5_drawn_X0_goByLots rfl rfl rfl (by decide +kernel) ⟨Nat.le_of_ble_eq_true rfl, Nat.le_of_ble_eq_true rfl⟩) ⟨gPre_blind, va_recv (q := (RX0, TX0, 12)) hK hP (ci := 0) (q0 := 9) rfl rfl, fun U hU hW => gPre_ofF [9, 10, 11, 12, 13, 14, 15, 16, 17, 18, 19, 20, 21, 22, 23] hU hW hK hP hD (by decide +kernel) rfl⟩ rfl rfl hl.1 rfl (lv_room (Nat.le_of_ble_eq_true rfl)) dX5_drawn_57 ⟨Nat.le_of_ble_eq_true rfl, Nat.le_of_ble_eq_true rfl⟩) hS hD hA rfl (fun u t H locs ht hvm hB hz1 hk1 hFq hAq hS => ?_)
          obtain ⟨yn1_46, ysk_47⟩ := u
          obtain ⟨hP1, hK1, hD1⟩ := hB
          have hz9 : gPD G A [zo5 h0 tt rd nw th kp sh tu him, zo0 nw tt n1 n2 n3 n4 n5 n6 n7 n8 (nI jg) (nI pb) (nI lw), zi G n2 4 fso, zi G n3 4 fmi, zi G n4 4 fpa, zi G n5 6 fki, zi G n6 6 fmo, zi G n7 6 fsz, zi G n8 6 frd, zo0 th tt t1 t2 t3 t4 t5 t6 t7 t8 (nI jg) (nI pb) (nI lw), zi G t1 6 yn1_46, zi G t2 4 (m_X0_goByLots_n2 (nC v1) (nC v2) (nC v3) fso fmi fpa fki fmo fsz frd fct fet (nI (nC v0))), zi G t3 4 (m_X0_goByLots_n3 (nC v1) (nC v2) (nC v3) fso fmi fpa fki fmo fsz frd fct fet (nI (nC v0))), zi G t4 4 (m_X0_goByLots_n4 (nC v1) (nC v2) (nC v3) fso fmi fpa fki fmo fsz frd fct fet (nI (nC v0))), zi G t5 6 fki, zi G t6 6 fmo, zi G t7 6 (m_X0_goByLots_n7 (nC v1) (nC v2) (nC v3) fso fmi fpa fki fmo fsz frd fct fet (nI (nC v0))), zi G t8 6 frd, zo3 tt co en sk wr (nI tx), zr G co 6 fc, zr G en 6 fe, zi G ct 160 fct, zi G et 3 (nF fet), zi G sk 32 ysk_47] H := zFill hP hD [9, 10, 11, 12, 13, 14, 15, 16, 17, 18, 19, 20, 21, 22, 23] [0, 0, 0, 0, 0, 0, 0, 0, 0, 1, 2, 3, 4, 5, 6, 7, 8, 9, 10, 11, 12, 13, 14, 15] hAq hk1 hFq ht hP1 hD1 rfl (by decide +kernel)
          have hP := hz9.1
          have hD := hz9.2
          refine lv_istore (lv' := [zI 6 (m_X0_goByLots (nC v1) (nC v2) (nC v3) fso fmi fpa fki fmo fsz frd fct fet (nI (nC v0))), zR 0 h0, zI 1 v0, zI 2 v1, zI 3 v2, zI 4 v3, zI 5 v4]) hx hb dX5_drawn_60 hl (by decide +kernel) rfl (fun ls hl => ?_)
          refine lv_aload_n hx hb dX5_drawn_62 rfl (lv_at hl 1 rfl) ?_
          refine lv_iload_n hx hb dX5_drawn_63 rfl (lv_at hl 3 rfl) ?_
          refine g_topi (y := nI (nC v1)) hv_6 ?_
          refine lv_iload_n hx hb dX5_drawn_64 rfl (lv_at hl 4 rfl) ?_
          refine g_topi (y := nI (nC v2)) hv_8 ?_
          refine lv_iload hx hb dX5_drawn_65 (lv_at hl 0 rfl) ?_
          refine lv_iload hx hb dX5_drawn_67 (lv_at hl 6 rfl) ?_
          refine g_topi (y := nI (nC v4)) hv_36 ?_
          refine z_calli [0, 9, 10, 11, 12, 13, 14, 15, 16, 17, 18, 19, 20, 21, 22, 23] (v := m_X5_outcome fet (m_X0_goByLots_n2 (nC v1) (nC v2) (nC v3) fso fmi fpa fki fmo fsz frd fct fet (nI (nC v0))) (m_X0_goByLots_n3 (nC v1) (nC v2) (nC v3) fso fmi fpa fki fmo fsz frd fct fet (nI (nC v0))) fmo (m_X0_goByLots_n7 (nC v1) (nC v2) (nC v3) fso fmi fpa fki fmo fsz frd fct fet (nI (nC v0))) frd fct (nC v1) (nC v2) (m_X0_goByLots (nC v1) (nC v2) (nC v3) fso fmi fpa fki fmo fsz frd fct fet (nI (nC v0))) (nI (nC v4))) (fun _ ⟨_, _⟩ h => h) (va_runV (As := [.int (nI (nC v1)), .int (nI (nC v2)), .int (m_X0_goByLots (nC v1) (nC v2) (nC v3) fso fmi fpa fki fmo fsz frd fct fet (nI (nC v0))), .int (nI (nC v4))]) (rest := []) ⟨hx, hb, hml, hown, hts⟩ (c_X5_outcome l G h0 tt rd nw th kp sh tu t1 t2 t3 t4 t5 t6 t7 t8 co en sk ct et lw tx him wr (nI jg) (nI pb) fc fe fet yn1_46 (m_X0_goByLots_n2 (nC v1) (nC v2) (nC v3) fso fmi fpa fki fmo fsz frd fct fet (nI (nC v0))) (m_X0_goByLots_n3 (nC v1) (nC v2) (nC v3) fso fmi fpa fki fmo fsz frd fct fet (nI (nC v0))) (m_X0_goByLots_n4 (nC v1) (nC v2) (nC v3) fso fmi fpa fki fmo fsz frd fct fet (nI (nC v0))) fki fmo (m_X0_goByLots_n7 (nC v1) (nC v2) (nC v3) fso fmi fpa fki fmo fsz frd fct fet (nI (nC v0))) frd fct ysk_47 (nC v1) (nC v2) (m_X0_goByLots (nC v1) (nC v2) (nC v3) fso fmi fpa fki fmo fsz frd fct fet (nI (nC v0))) (nI (nC v4)) H.size (by first | exact hj | assumption | omega) (by first | exact hp | assumption | omega) (by first | exact htn | assumption | omega) (by first | exact hc | assumption | omega) (by first | exact he | assumption | omega) (by first | exact hwx | assumption | omega)) (cwV 4 hts gX5_drawn_X5_outcome rfl rfl rfl (by decide +kernel) ⟨Nat.le_of_ble_eq_true rfl, Nat.le_of_ble_eq_true rfl⟩) ⟨gPre_blind, va_recv (q := (RX5, TX5, 8)) hK hP (ci := 5) (q0 := 0) rfl rfl, fun U hU hW => gPre_ofF [0, 9, 10, 11, 12, 13, 14, 15, 16, 17, 18, 19, 20, 21, 22, 23] hU hW hK hP hD (by decide +kernel) rfl⟩ rfl rfl hl.1 rfl (lv_room (Nat.le_of_ble_eq_true rfl)) dX5_drawn_69 ⟨Nat.le_of_ble_eq_true rfl, Nat.le_of_ble_eq_true rfl⟩) hS hD hA rfl (fun u t H locs ht hvm hB hz1 hk1 hFq hAq hS => ?_)
          obtain ⟨yt1_53, ysk_54⟩ := u
          obtain ⟨hP1, hK1, hD1⟩ := hB
          have hz9 : gPD G A [zo5 h0 tt rd nw th kp sh tu him, zo0 nw tt n1 n2 n3 n4 n5 n6 n7 n8 (nI jg) (nI pb) (nI lw), zi G n2 4 fso, zi G n3 4 fmi, zi G n4 4 fpa, zi G n5 6 fki, zi G n6 6 fmo, zi G n7 6 fsz, zi G n8 6 frd, zo0 th tt t1 t2 t3 t4 t5 t6 t7 t8 (nI jg) (nI pb) (nI lw), zi G t1 6 yt1_53, zi G t2 4 (m_X0_goByLots_n2 (nC v1) (nC v2) (nC v3) fso fmi fpa fki fmo fsz frd fct fet (nI (nC v0))), zi G t3 4 (m_X0_goByLots_n3 (nC v1) (nC v2) (nC v3) fso fmi fpa fki fmo fsz frd fct fet (nI (nC v0))), zi G t4 4 (m_X0_goByLots_n4 (nC v1) (nC v2) (nC v3) fso fmi fpa fki fmo fsz frd fct fet (nI (nC v0))), zi G t5 6 fki, zi G t6 6 fmo, zi G t7 6 (m_X0_goByLots_n7 (nC v1) (nC v2) (nC v3) fso fmi fpa fki fmo fsz frd fct fet (nI (nC v0))), zi G t8 6 frd, zo3 tt co en sk wr (nI tx), zr G co 6 fc, zr G en 6 fe, zi G ct 160 fct, zi G et 3 (nF fet), zi G sk 32 ysk_54] H := zFill hP hD [0, 9, 10, 11, 12, 13, 14, 15, 16, 17, 18, 19, 20, 21, 22, 23] [1, 0, 0, 0, 0, 0, 0, 0, 0, 2, 3, 4, 5, 6, 7, 8, 9, 10, 11, 12, 13, 14, 15, 16] hAq hk1 hFq ht hP1 hD1 rfl (by decide +kernel)
          have hP := hz9.1
          have hD := hz9.2
          have q_55 : m_X5_drawn_th9 jg pb tj v0 v1 v2 v3 v4 = (nI jg) := by unfold m_X5_drawn_th9; rw [if_pos p_4, if_pos p_13, if_pos p_23, if_pos p_34]
          have q_56 : m_X5_drawn_th10 jg pb tb v0 v1 v2 v3 v4 = (nI pb) := by unfold m_X5_drawn_th10; rw [if_pos p_4, if_pos p_13, if_pos p_23, if_pos p_34]
          have q_57 : m_X5_drawn_th11 jg pb lw tl v0 v1 v2 v3 v4 = nI lw := by unfold m_X5_drawn_th11; rw [if_pos p_4, if_pos p_13, if_pos p_23, if_pos p_34]
          have hz9 : gPD G A [zo5 h0 tt rd nw th kp sh tu him, zo0 nw tt n1 n2 n3 n4 n5 n6 n7 n8 (nI jg) (nI pb) (nI lw), zi G n2 4 fso, zi G n3 4 fmi, zi G n4 4 fpa, zi G n5 6 fki, zi G n6 6 fmo, zi G n7 6 fsz, zi G n8 6 frd, zo0 th tt t1 t2 t3 t4 t5 t6 t7 t8 (m_X5_drawn_th9 jg pb tj v0 v1 v2 v3 v4) (m_X5_drawn_th10 jg pb tb v0 v1 v2 v3 v4) (m_X5_drawn_th11 jg pb lw tl v0 v1 v2 v3 v4), zi G t1 6 yt1_53, zi G t2 4 (m_X0_goByLots_n2 (nC v1) (nC v2) (nC v3) fso fmi fpa fki fmo fsz frd fct fet (nI (nC v0))), zi G t3 4 (m_X0_goByLots_n3 (nC v1) (nC v2) (nC v3) fso fmi fpa fki fmo fsz frd fct fet (nI (nC v0))), zi G t4 4 (m_X0_goByLots_n4 (nC v1) (nC v2) (nC v3) fso fmi fpa fki fmo fsz frd fct fet (nI (nC v0))), zi G t5 6 fki, zi G t6 6 fmo, zi G t7 6 (m_X0_goByLots_n7 (nC v1) (nC v2) (nC v3) fso fmi fpa fki fmo fsz frd fct fet (nI (nC v0))), zi G t8 6 frd, zo3 tt co en sk wr (nI tx), zr G co 6 fc, zr G en 6 fe, zi G ct 160 fct, zi G et 3 (nF fet), zi G sk 32 ysk_54] H := ⟨by rw [q_55, q_56, q_57]; exact hP, by rw [q_55, q_56, q_57]; exact hD⟩
          have hP9 := hz9.1
          have hD9 := hz9.2
          have hpost : (fun (r : Int32) (u : (Nat → Int32) × (Nat → Int32) × (Nat → Int32) × (Nat → Int32) × (Nat → Int32) × (Nat → Int32) × (Nat → Int32) × (Nat → Int32) × (Nat → Int32)) => match u with | (yt1, yt2, yt3, yt4, yt5, yt6, yt7, yt8, ysk) => r = m_X5_drawn jg pb fet fso fmi fpa fki fmo fsz frd fct v0 v1 v2 v3 v4) (m_X5_outcome fet (m_X0_goByLots_n2 (nC v1) (nC v2) (nC v3) fso fmi fpa fki fmo fsz frd fct fet (nI (nC v0))) (m_X0_goByLots_n3 (nC v1) (nC v2) (nC v3) fso fmi fpa fki fmo fsz frd fct fet (nI (nC v0))) fmo (m_X0_goByLots_n7 (nC v1) (nC v2) (nC v3) fso fmi fpa fki fmo fsz frd fct fet (nI (nC v0))) frd fct (nC v1) (nC v2) (m_X0_goByLots (nC v1) (nC v2) (nC v3) fso fmi fpa fki fmo fsz frd fct fet (nI (nC v0))) (nI (nC v4))) (yt1_53, (m_X0_goByLots_n2 (nC v1) (nC v2) (nC v3) fso fmi fpa fki fmo fsz frd fct fet (nI (nC v0))), (m_X0_goByLots_n3 (nC v1) (nC v2) (nC v3) fso fmi fpa fki fmo fsz frd fct fet (nI (nC v0))), (m_X0_goByLots_n4 (nC v1) (nC v2) (nC v3) fso fmi fpa fki fmo fsz frd fct fet (nI (nC v0))), fki, fmo, (m_X0_goByLots_n7 (nC v1) (nC v2) (nC v3) fso fmi fpa fki fmo fsz frd fct fet (nI (nC v0))), frd, ysk_54) := (show m_X5_drawn jg pb fet fso fmi fpa fki fmo fsz frd fct v0 v1 v2 v3 v4 = (m_X5_outcome fet (m_X0_goByLots_n2 (nC v1) (nC v2) (nC v3) fso fmi fpa fki fmo fsz frd fct fet (nI (nC v0))) (m_X0_goByLots_n3 (nC v1) (nC v2) (nC v3) fso fmi fpa fki fmo fsz frd fct fet (nI (nC v0))) fmo (m_X0_goByLots_n7 (nC v1) (nC v2) (nC v3) fso fmi fpa fki fmo fsz frd fct fet (nI (nC v0))) frd fct (nC v1) (nC v2) (m_X0_goByLots (nC v1) (nC v2) (nC v3) fso fmi fpa fki fmo fsz frd fct fet (nI (nC v0))) (nI (nC v4))) from by unfold m_X5_drawn; rw [if_pos p_4, if_pos p_13, if_pos p_23, if_pos p_34]).symm
          exact W.iret (v := (m_X5_outcome fet (m_X0_goByLots_n2 (nC v1) (nC v2) (nC v3) fso fmi fpa fki fmo fsz frd fct fet (nI (nC v0))) (m_X0_goByLots_n3 (nC v1) (nC v2) (nC v3) fso fmi fpa fki fmo fsz frd fct fet (nI (nC v0))) fmo (m_X0_goByLots_n7 (nC v1) (nC v2) (nC v3) fso fmi fpa fki fmo fsz frd fct fet (nI (nC v0))) frd fct (nC v1) (nC v2) (m_X0_goByLots (nC v1) (nC v2) (nC v3) fso fmi fpa fki fmo fsz frd fct fet (nI (nC v0))) (nI (nC v4)))) hx hb hr (fun t ht hW => ⟨⟨(m_X5_outcome fet (m_X0_goByLots_n2 (nC v1) (nC v2) (nC v3) fso fmi fpa fki fmo fsz frd fct fet (nI (nC v0))) (m_X0_goByLots_n3 (nC v1) (nC v2) (nC v3) fso fmi fpa fki fmo fsz frd fct fet (nI (nC v0))) fmo (m_X0_goByLots_n7 (nC v1) (nC v2) (nC v3) fso fmi fpa fki fmo fsz frd fct fet (nI (nC v0))) frd fct (nC v1) (nC v2) (m_X0_goByLots (nC v1) (nC v2) (nC v3) fso fmi fpa fki fmo fsz frd fct fet (nI (nC v0))) (nI (nC v4))), (yt1_53, (m_X0_goByLots_n2 (nC v1) (nC v2) (nC v3) fso fmi fpa fki fmo fsz frd fct fet (nI (nC v0))), (m_X0_goByLots_n3 (nC v1) (nC v2) (nC v3) fso fmi fpa fki fmo fsz frd fct fet (nI (nC v0))), (m_X0_goByLots_n4 (nC v1) (nC v2) (nC v3) fso fmi fpa fki fmo fsz frd fct fet (nI (nC v0))), fki, fmo, (m_X0_goByLots_n7 (nC v1) (nC v2) (nC v3) fso fmi fpa fki fmo fsz frd fct fet (nI (nC v0))), frd, ysk_54), rfl, hpost, by rw [ht]; exact hP9, va_K.moved hW.alike hK, hD9⟩, hS.F ht⟩) hS.2.2 dX5_drawn_72
        · skip
          have n_35 : ¬ (0 ≤ v4 ∧ v4 ≤ 2) := of_decide_eq_false (bz_eq rfl c_33)
          refine lv_bipush (v := -7) hx hb dX5_drawn_41 (by decide +kernel) ?_
          have q_58 : m_X5_drawn_th9 jg pb tj v0 v1 v2 v3 v4 = tj := by unfold m_X5_drawn_th9; rw [if_pos p_4, if_pos p_13, if_pos p_23, if_neg n_35]
          have q_59 : m_X5_drawn_th10 jg pb tb v0 v1 v2 v3 v4 = tb := by unfold m_X5_drawn_th10; rw [if_pos p_4, if_pos p_13, if_pos p_23, if_neg n_35]
          have q_60 : m_X5_drawn_th11 jg pb lw tl v0 v1 v2 v3 v4 = tl := by unfold m_X5_drawn_th11; rw [if_pos p_4, if_pos p_13, if_pos p_23, if_neg n_35]
          have hz9 : gPD G A [zo5 h0 tt rd nw th kp sh tu him, zo0 nw tt n1 n2 n3 n4 n5 n6 n7 n8 (nI jg) (nI pb) (nI lw), zi G n2 4 fso, zi G n3 4 fmi, zi G n4 4 fpa, zi G n5 6 fki, zi G n6 6 fmo, zi G n7 6 fsz, zi G n8 6 frd, zo0 th tt t1 t2 t3 t4 t5 t6 t7 t8 (m_X5_drawn_th9 jg pb tj v0 v1 v2 v3 v4) (m_X5_drawn_th10 jg pb tb v0 v1 v2 v3 v4) (m_X5_drawn_th11 jg pb lw tl v0 v1 v2 v3 v4), zi G t1 6 unm, zi G t2 4 uso, zi G t3 4 umi, zi G t4 4 upa, zi G t5 6 uki, zi G t6 6 umo, zi G t7 6 usz, zi G t8 6 urd, zo3 tt co en sk wr (nI tx), zr G co 6 fc, zr G en 6 fe, zi G ct 160 fct, zi G et 3 (nF fet), zi G sk 32 fsk] H := ⟨by rw [q_58, q_59, q_60]; exact hP, by rw [q_58, q_59, q_60]; exact hD⟩
          have hP9 := hz9.1
          have hD9 := hz9.2
          have hpost : (fun (r : Int32) (u : (Nat → Int32) × (Nat → Int32) × (Nat → Int32) × (Nat → Int32) × (Nat → Int32) × (Nat → Int32) × (Nat → Int32) × (Nat → Int32) × (Nat → Int32)) => match u with | (yt1, yt2, yt3, yt4, yt5, yt6, yt7, yt8, ysk) => r = m_X5_drawn jg pb fet fso fmi fpa fki fmo fsz frd fct v0 v1 v2 v3 v4) (-7) (unm, uso, umi, upa, uki, umo, usz, urd, fsk) := (show m_X5_drawn jg pb fet fso fmi fpa fki fmo fsz frd fct v0 v1 v2 v3 v4 = (-7) from by unfold m_X5_drawn; rw [if_pos p_4, if_pos p_13, if_pos p_23, if_neg n_35]).symm
          exact W.iret (v := (-7)) hx hb hr (fun t ht hW => ⟨⟨(-7), (unm, uso, umi, upa, uki, umo, usz, urd, fsk), rfl, hpost, by rw [ht]; exact hP9, va_K.moved hW.alike hK, hD9⟩, hS.F ht⟩) hS.2.2 dX5_drawn_43
  · skip
    have n_5 : (mBoth jg pb v1 v2) = false := bz_eq rfl c_3
    have n_5N : ¬ ((mBoth jg pb v1 v2) = true) := by rw [n_5]; decide
    refine lv_bipush (v := -5) hx hb dX5_drawn_12 (by decide +kernel) ?_
    have q_61 : m_X5_drawn_th9 jg pb tj v0 v1 v2 v3 v4 = tj := by unfold m_X5_drawn_th9; rw [if_neg n_5N]
    have q_62 : m_X5_drawn_th10 jg pb tb v0 v1 v2 v3 v4 = tb := by unfold m_X5_drawn_th10; rw [if_neg n_5N]
    have q_63 : m_X5_drawn_th11 jg pb lw tl v0 v1 v2 v3 v4 = tl := by unfold m_X5_drawn_th11; rw [if_neg n_5N]
    have hz9 : gPD G A [zo5 h0 tt rd nw th kp sh tu him, zo0 nw tt n1 n2 n3 n4 n5 n6 n7 n8 (nI jg) (nI pb) (nI lw), zi G n2 4 fso, zi G n3 4 fmi, zi G n4 4 fpa, zi G n5 6 fki, zi G n6 6 fmo, zi G n7 6 fsz, zi G n8 6 frd, zo0 th tt t1 t2 t3 t4 t5 t6 t7 t8 (m_X5_drawn_th9 jg pb tj v0 v1 v2 v3 v4) (m_X5_drawn_th10 jg pb tb v0 v1 v2 v3 v4) (m_X5_drawn_th11 jg pb lw tl v0 v1 v2 v3 v4), zi G t1 6 unm, zi G t2 4 uso, zi G t3 4 umi, zi G t4 4 upa, zi G t5 6 uki, zi G t6 6 umo, zi G t7 6 usz, zi G t8 6 urd, zo3 tt co en sk wr (nI tx), zr G co 6 fc, zr G en 6 fe, zi G ct 160 fct, zi G et 3 (nF fet), zi G sk 32 fsk] H := ⟨by rw [q_61, q_62, q_63]; exact hP, by rw [q_61, q_62, q_63]; exact hD⟩
    have hP9 := hz9.1
    have hD9 := hz9.2
    have hpost : (fun (r : Int32) (u : (Nat → Int32) × (Nat → Int32) × (Nat → Int32) × (Nat → Int32) × (Nat → Int32) × (Nat → Int32) × (Nat → Int32) × (Nat → Int32) × (Nat → Int32)) => match u with | (yt1, yt2, yt3, yt4, yt5, yt6, yt7, yt8, ysk) => r = m_X5_drawn jg pb fet fso fmi fpa fki fmo fsz frd fct v0 v1 v2 v3 v4) (-5) (unm, uso, umi, upa, uki, umo, usz, urd, fsk) := (show m_X5_drawn jg pb fet fso fmi fpa fki fmo fsz frd fct v0 v1 v2 v3 v4 = (-5) from by unfold m_X5_drawn; rw [if_neg n_5N]).symm
    exact W.iret (v := (-5)) hx hb hr (fun t ht hW => ⟨⟨(-5), (unm, uso, umi, upa, uki, umo, usz, urd, fsk), rfl, hpost, by rw [ht]; exact hP9, va_K.moved hW.alike hK, hD9⟩, hS.F ht⟩) hS.2.2 dX5_drawn_14
