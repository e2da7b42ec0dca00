theorem g15 {x : Int32} (h1 : ¬ x < 1) (h5 : ¬ 5 < x) : x = 1 ∨ x = 2 ∨ x = 3 ∨ x = 4 ∨ x = 5 := by
  have a : (1 : Int) ≤ x.toInt := Int32.le_iff_toInt_le.mp (Int32.not_lt.mp h1)
  have b : x.toInt ≤ (5 : Int) := Int32.le_iff_toInt_le.mp (Int32.not_lt.mp h5)
  have e : x.toInt = 1 ∨ x.toInt = 2 ∨ x.toInt = 3 ∨ x.toInt = 4 ∨ x.toInt = 5 := by omega
  rcases e with e | e | e | e | e
  · exact Or.inl (Int32.toInt_inj.mp e)
  · exact Or.inr (Or.inl (Int32.toInt_inj.mp e))
  · exact Or.inr (Or.inr (Or.inl (Int32.toInt_inj.mp e)))
  · exact Or.inr (Or.inr (Or.inr (Or.inl (Int32.toInt_inj.mp e))))
  · exact Or.inr (Or.inr (Or.inr (Or.inr (Int32.toInt_inj.mp e))))
theorem g03 {x : Int32} (h : 0 ≤ x ∧ x ≤ 3) : x = 0 ∨ x = 1 ∨ x = 2 ∨ x = 3 := by
  have a : (0 : Int) ≤ x.toInt := Int32.le_iff_toInt_le.mp h.1
  have b : x.toInt ≤ (3 : Int) := Int32.le_iff_toInt_le.mp h.2
  have e : x.toInt = 0 ∨ x.toInt = 1 ∨ x.toInt = 2 ∨ x.toInt = 3 := by omega
  rcases e with e | e | e | e
  · exact Or.inl (Int32.toInt_inj.mp e)
  · exact Or.inr (Or.inl (Int32.toInt_inj.mp e))
  · exact Or.inr (Or.inr (Or.inl (Int32.toInt_inj.mp e)))
  · exact Or.inr (Or.inr (Or.inr (Int32.toInt_inj.mp e)))
/-! the reference's tables, small numbers -/
noncomputable def tW : List Int32 := [102, 101, 101, 108, 115, 32, 32, 32, 119, 101, 97, 114, 115, 32, 32, 32, 98, 97, 114, 115, 32, 32, 32, 32, 115, 105, 122, 101, 32, 32, 32, 32, 114, 111, 117, 110, 100, 32, 32, 32, 115, 111, 108, 101, 115, 32, 32, 32, 109, 105, 108, 101, 115, 32, 32, 32, 109, 111, 114, 101, 32, 32, 32, 32, 106, 117, 100, 103, 101, 32, 32, 32, 111, 114, 32, 32, 32, 32, 32, 32, 97, 110, 100, 32, 32, 32, 32, 32, 110, 111, 116, 32, 32, 32, 32, 32]
theorem gPf_s0 {t : List Int32} {x : Int32} (h : t.getD 0 0 = x) : upd (fun _ => 0) 0 x = gPf t 1 := gPf_step (k := 0) h
theorem g_none (x : Int32) : bz (decide (0 ≤ x ∧ x ≤ -1)) = 0 := by
  have h : ¬ (0 ≤ x ∧ x ≤ -1) := by
    intro z
    have a : (0 : Int) ≤ x.toInt := Int32.le_iff_toInt_le.mp z.1
    have b : x.toInt ≤ (-1 : Int) := Int32.le_iff_toInt_le.mp z.2
    omega
  rw [decide_eq_false h]
  rfl
theorem g15b {x : Int32} (h : 1 ≤ x ∧ x ≤ 5) : x = 1 ∨ x = 2 ∨ x = 3 ∨ x = 4 ∨ x = 5 := g15 (Int32.not_lt.mpr h.1) (Int32.not_lt.mpr h.2)
theorem g_m2 {x : Int32} (h : 0 ≤ x ∧ x ≤ 3) : (upd (upd (upd (upd (fun _ => 0) 0 (-1)) 1 (-1)) 2 (-1)) 3 (-1)) x.toNatClampNeg = (-1 : Int32) := by
  rcases g03 h with e | e | e | e <;> rw [e] <;> rfl
theorem g_nlt0 {x y : Int32} (h : 0 ≤ x ∧ x ≤ y) : ¬ x < 0 := Int32.not_lt.mpr h.1
theorem g_sub6 {x : Int32} (h : ¬ x < 6) (h9 : 0 ≤ x ∧ x ≤ 9) : ¬ x - 6 < 0 := by
  have a : (6 : Int) ≤ x.toInt := Int32.le_iff_toInt_le.mp (Int32.not_lt.mp h)
  have b : x.toInt ≤ (9 : Int) := Int32.le_iff_toInt_le.mp h9.2
  have e : x.toInt = 6 ∨ x.toInt = 7 ∨ x.toInt = 8 ∨ x.toInt = 9 := by omega
  have e2 : x = 6 ∨ x = 7 ∨ x = 8 ∨ x = 9 := by
    rcases e with e | e | e | e
    · exact Or.inl (Int32.toInt_inj.mp e)
    · exact Or.inr (Or.inl (Int32.toInt_inj.mp e))
    · exact Or.inr (Or.inr (Or.inl (Int32.toInt_inj.mp e)))
    · exact Or.inr (Or.inr (Or.inr (Int32.toInt_inj.mp e)))
  rcases e2 with e | e | e | e <;> rw [e] <;> decide
theorem g_ix40 {x : Int32} {i : Nat} (h : 0 ≤ x ∧ x ≤ 3) (hi : i < 40) : vp_in (40 * x + nI i) 160 := by
  rcases g03 h with e | e | e | e <;> rw [e]
  · rw [show (40 * 0 : Int32) = nI 0 from by decide, nI_add]; exact vp_in_nI (by omega) (by omega)
  · rw [show (40 * 1 : Int32) = nI 40 from by decide, nI_add]; exact vp_in_nI (by omega) (by omega)
  · rw [show (40 * 2 : Int32) = nI 80 from by decide, nI_add]; exact vp_in_nI (by omega) (by omega)
  · rw [show (40 * 3 : Int32) = nI 120 from by decide, nI_add]; exact vp_in_nI (by omega) (by omega)
theorem pp_X6_in_1 (v0 : Int32) (v1 : Int32) (v2 : Int32) (c_1 : v0 < v1) : (0 : Int32) = bz (decide (v1 ≤ v0 ∧ v0 ≤ v2)) := by
  first
    | rfl
    | exact bz_pos (by (first | omega | (simp only [Int32.lt_iff_toInt_lt, Int32.le_iff_toInt_le, ← Int32.toInt_inj, Int32.reduceToInt] at * <;> omega)))
    | exact bz_neg (by (first | omega | (simp only [Int32.lt_iff_toInt_lt, Int32.le_iff_toInt_le, ← Int32.toInt_inj, Int32.reduceToInt] at * <;> omega)))
    | ((repeat' split) <;> first | rfl | assumption | (symm; assumption) | (exfalso; (first | omega | (simp only [Int32.lt_iff_toInt_lt, Int32.le_iff_toInt_le, ← Int32.toInt_inj, Int32.reduceToInt] at * <;> omega))))
theorem pp_X6_in_2 (v0 : Int32) (v1 : Int32) (v2 : Int32) (c_1 : ¬ (v0 < v1)) (c_2 : v2 < v0) : (0 : Int32) = bz (decide (v1 ≤ v0 ∧ v0 ≤ v2)) := by
  first
    | rfl
    | exact bz_pos (by (first | omega | (simp only [Int32.lt_iff_toInt_lt, Int32.le_iff_toInt_le, ← Int32.toInt_inj, Int32.reduceToInt] at * <;> omega)))
    | exact bz_neg (by (first | omega | (simp only [Int32.lt_iff_toInt_lt, Int32.le_iff_toInt_le, ← Int32.toInt_inj, Int32.reduceToInt] at * <;> omega)))
    | ((repeat' split) <;> first | rfl | assumption | (symm; assumption) | (exfalso; (first | omega | (simp only [Int32.lt_iff_toInt_lt, Int32.le_iff_toInt_le, ← Int32.toInt_inj, Int32.reduceToInt] at * <;> omega))))
theorem pp_X6_in_3 (v0 : Int32) (v1 : Int32) (v2 : Int32) (c_1 : ¬ (v0 < v1)) (c_2 : ¬ (v2 < v0)) : (1 : Int32) = bz (decide (v1 ≤ v0 ∧ v0 ≤ v2)) := by
  first
    | rfl
    | exact bz_pos (by (first | omega | (simp only [Int32.lt_iff_toInt_lt, Int32.le_iff_toInt_le, ← Int32.toInt_inj, Int32.reduceToInt] at * <;> omega)))
    | exact bz_neg (by (first | omega | (simp only [Int32.lt_iff_toInt_lt, Int32.le_iff_toInt_le, ← Int32.toInt_inj, Int32.reduceToInt] at * <;> omega)))
    | ((repeat' split) <;> first | rfl | assumption | (symm; assumption) | (exfalso; (first | omega | (simp only [Int32.lt_iff_toInt_lt, Int32.le_iff_toInt_le, ← Int32.toInt_inj, Int32.reduceToInt] at * <;> omega))))
abbrev q_X6_in (G : gG) (v0 : Int32) (v1 : Int32) (v2 : Int32) (A : Nat → Prop) : Array Value → State → Outcome → State → Prop := va_Qi (fun (r : Int32) (u : Unit) => match u with | _ => r = bz (decide (v1 ≤ v0 ∧ v0 ≤ v2))) (fun (u : Unit) t => match u with | _ => va_P G.1 vwCl [] t.heap ∧ gK G t ∧ va_D A []) A
set_option maxHeartbeats 4000000 in
set_option maxRecDepth 100000 in
theorem c_X6_in (l : Launch) (G : gG) (v0 : Int32) (v1 : Int32) (v2 : Int32) (sz : Nat) : Met l yX6_in wsX6_in ({ frames := 0, cells := 0, slots := 0, locals := 0 }) (gPre G [.int v0, .int v1, .int v2] [] sz) (q_X6_in G v0 v1 v2 (va_A [] sz)) 0 0 (va_A [] sz) := by
  refine Met.ofW (cc := cX6_in) (maxL := 3) (ret := (some .boolean)) (by decide) rfl ?_
  intro p e s m args below meth c s₁ B hml hv
  obtain ⟨rfl, hsz, hP, hK, hD0⟩ := hv
  have hx := B.exec
  have hb := B.bytes
  have hr := B.returns
  have hts := atoms_spec (ws := wsX6_in) B.pre
  have hown : s.vm.findClass RX6 = some m.cls := findClass_of_methodNamed B.named
  have hlocks := B.notSynchronized
  subst hsz
  have hD := hD0.self (sz := s.heap.size)
  generalize hAe : va_A [] s.heap.size = A at hD ⊢
  have hA : ∀ q : Nat, s.heap.size ≤ q → A q := fun q h => by rw [← hAe]; exact Or.inr h
  have hS : va_S A s.heap s.heap [] := va_S.rf
  have hP : va_P G.1 vwCl [] s.heap := hP
  have hD : va_D A [] := hD
  have hl := lv_entry ([.int v0, .int v1, .int v2]) (n := 3) (Nat.le_of_ble_eq_true rfl)
  rw [lg_entry_eq]
  generalize (lg_sl ([.int v0, .int v1, .int v2]) ++ List.replicate (3 - (lg_sl ([.int v0, .int v1, .int v2])).length) Slot.unset).toArray = ls at hl ⊢
  have hl : lv_has ls 3 [zI 0 v0, zI 1 v1, zI 2 v2] := hl
  refine lv_iload_n hx hb dX6_in_0 rfl (lv_at hl 0 rfl) ?_
  refine lv_iload_n hx hb dX6_in_1 rfl (lv_at hl 1 rfl) ?_
  refine lv_icmp_lt (tgt := 14) hx hb dX6_in_2 (by decide) (fun c_1 => ?_) (fun c_1 => ?_)
  · skip
    refine lv_iconst (v := 0) hx hb dX6_in_14 (by decide) ?_
    have hP9 := hP.sub (ws' := []) [] rfl
    have hD9 := hD.sub (ws' := []) [] (by decide) rfl
    have hpost : (fun (r : Int32) (u : Unit) => match u with | _ => r = bz (decide (v1 ≤ v0 ∧ v0 ≤ v2))) 0 () := pp_X6_in_1 v0 v1 v2 c_1
    exact W.zret (v := 0) hx hb hr (rfl) (fun t ht hW => ⟨⟨0, (), rfl, hpost, by rw [ht]; exact hP9, va_K.moved hW.alike hK, hD9⟩, hS.F ht⟩) hS.2.2 dX6_in_15
  · skip
    refine lv_iload_n hx hb dX6_in_5 rfl (lv_at hl 0 rfl) ?_
    refine lv_iload_n hx hb dX6_in_6 rfl (lv_at hl 2 rfl) ?_
    refine lv_icmp_gt (tgt := 14) hx hb dX6_in_7 (by decide) (fun c_2 => ?_) (fun c_2 => ?_)
    · skip
      refine lv_iconst (v := 0) hx hb dX6_in_14 (by decide) ?_
      have hP9 := hP.sub (ws' := []) [] rfl
      have hD9 := hD.sub (ws' := []) [] (by decide) rfl
      have hpost : (fun (r : Int32) (u : Unit) => match u with | _ => r = bz (decide (v1 ≤ v0 ∧ v0 ≤ v2))) 0 () := pp_X6_in_2 v0 v1 v2 c_1 c_2
      exact W.zret (v := 0) hx hb hr (rfl) (fun t ht hW => ⟨⟨0, (), rfl, hpost, by rw [ht]; exact hP9, va_K.moved hW.alike hK, hD9⟩, hS.F ht⟩) hS.2.2 dX6_in_15
    · skip
      refine lv_iconst (v := 1) hx hb dX6_in_10 (by decide) ?_
      refine lv_goto (tgt := 15) hx hb dX6_in_11 (by decide) ?_
      have hP9 := hP.sub (ws' := []) [] rfl
      have hD9 := hD.sub (ws' := []) [] (by decide) rfl
      have hpost : (fun (r : Int32) (u : Unit) => match u with | _ => r = bz (decide (v1 ≤ v0 ∧ v0 ≤ v2))) 1 () := pp_X6_in_3 v0 v1 v2 c_1 c_2
      exact W.zret (v := 1) hx hb hr (rfl) (fun t ht hW => ⟨⟨1, (), rfl, hpost, by rw [ht]; exact hP9, va_K.moved hW.alike hK, hD9⟩, hS.F ht⟩) hS.2.2 dX6_in_15
abbrev q_X6_isByte (G : gG) (v0 : Int32) (A : Nat → Prop) : Array Value → State → Outcome → State → Prop := va_Qi (fun (r : Int32) (u : Unit) => match u with | _ => r = bz (decide (0 ≤ v0 ∧ v0 ≤ 255))) (fun (u : Unit) t => match u with | _ => va_P G.1 vwCl [] t.heap ∧ gK G t ∧ va_D A []) A
set_option maxHeartbeats 4000000 in
set_option maxRecDepth 100000 in
theorem c_X6_isByte (l : Launch) (G : gG) (v0 : Int32) (sz : Nat) : Met l yX6_isByte wsX6_isByte ({ frames := 1, cells := 0, slots := 0, locals := 22 }) (gPre G [.int v0] [] sz) (q_X6_isByte G v0 (va_A [] sz)) 0 0 (va_A [] sz) := by
  refine Met.ofW (cc := cX6_isByte) (maxL := 1) (ret := (some .boolean)) (by decide) rfl ?_
  intro p e s m args below meth c s₁ B hml hv
  obtain ⟨rfl, hsz, hP, hK, hD0⟩ := hv
  have hx := B.exec
  have hb := B.bytes
  have hr := B.returns
  have hts := atoms_spec (ws := wsX6_isByte) B.pre
  have hown : s.vm.findClass RX6 = some m.cls := findClass_of_methodNamed B.named
  have hlocks := B.notSynchronized
  subst hsz
  have hD := hD0.self (sz := s.heap.size)
  generalize hAe : va_A [] s.heap.size = A at hD ⊢
  have hA : ∀ q : Nat, s.heap.size ≤ q → A q := fun q h => by rw [← hAe]; exact Or.inr h
  have hS : va_S A s.heap s.heap [] := va_S.rf
  have hP : va_P G.1 vwCl [] s.heap := hP
  have hD : va_D A [] := hD
  have hl := lv_entry ([.int v0]) (n := 1) (Nat.le_of_ble_eq_true rfl)
  rw [lg_entry_eq]
  generalize (lg_sl ([.int v0]) ++ List.replicate (1 - (lg_sl ([.int v0])).length) Slot.unset).toArray = ls at hl ⊢
  have hl : lv_has ls 1 [zI 0 v0] := hl
  refine lv_iload_n hx hb dX6_isByte_0 rfl (lv_at hl 0 rfl) ?_
  refine lv_iconst (v := 0) hx hb dX6_isByte_1 (by decide) ?_
  refine lv_sipush (v := 255) hx hb dX6_isByte_2 (by decide) ?_
  have hPc : va_P G.1 vwCl [] s.heap := hP.sub [] rfl
  have hDc : va_D A [] := hD.sub [] (by decide) rfl
  have hFc := va_free (wc := []) hD hS hA [] rfl
  refine va_calli (va_runS (As := [.int v0, .int 0, .int 255]) (rest := []) ⟨hx, hb, hml, hown, hts⟩ (c_X6_in l G v0 0 255 s.heap.size) (va_cwS 3 hts gX6_isByte_X6_in rfl rfl rfl (by decide +kernel) ⟨Nat.le_of_ble_eq_true rfl, Nat.le_of_ble_eq_true rfl⟩) ⟨gPre_blind, fun U hU hW => gPre_of hU hW hK hPc hDc⟩ rfl rfl hl.1 rfl (lv_room (Nat.le_of_ble_eq_true rfl)) dX6_isByte_5 ⟨Nat.le_of_ble_eq_true rfl, Nat.le_of_ble_eq_true rfl⟩) hS (fun q _ h => hFc q h) hFc (fun r_1 u t H locs ht hvm w_2 hB hz1 hk1 hS => ?_)
  obtain ⟨hP1, hK1, hD1⟩ := hB
  rw [ht] at hP1
  have hP1 : va_P G.1 vwCl [] H := hP1
  have hD1 : va_D (va_A [] s.heap.size) [] := hD1
  have w_2 : r_1 = bz (decide (0 ≤ v0 ∧ v0 ≤ 255)) := w_2
  obtain ⟨hP, hD⟩ := va_join (wr := []) (w1 := []) hP hD [] [] rfl rfl (by decide) (by decide) hk1 hFc hP1 hD1
  have hP : va_P G.1 vwCl [] H := hP
  have hD : va_D A [] := hD
  have hq := w_2
  have hP9 := hP.sub (ws' := []) [] rfl
  have hD9 := hD.sub (ws' := []) [] (by decide) rfl
  have hpost : (fun (r : Int32) (u : Unit) => match u with | _ => r = bz (decide (0 ≤ v0 ∧ v0 ≤ 255))) r_1 () := w_2
  exact W.zret (v := r_1) hx hb hr (by rw [w_2]; exact bz_nar _) (fun t ht hW => ⟨⟨r_1, (), rfl, hpost, by rw [ht]; exact hP9, va_K.moved hW.alike hK, hD9⟩, hS.F ht⟩) hS.2.2 dX6_isByte_8
abbrev q_X6_isCase (G : gG) (v0 : Int32) (A : Nat → Prop) : Array Value → State → Outcome → State → Prop := va_Qi (fun (r : Int32) (u : Unit) => match u with | _ => r = bz (decide (0 ≤ v0 ∧ v0 ≤ 60))) (fun (u : Unit) t => match u with | _ => va_P G.1 vwCl [] t.heap ∧ gK G t ∧ va_D A []) A
set_option maxHeartbeats 4000000 in
set_option maxRecDepth 100000 in
theorem c_X6_isCase (l : Launch) (G : gG) (v0 : Int32) (sz : Nat) : Met l yX6_isCase wsX6_isCase ({ frames := 1, cells := 0, slots := 0, locals := 22 }) (gPre G [.int v0] [] sz) (q_X6_isCase G v0 (va_A [] sz)) 0 0 (va_A [] sz) := by
  refine Met.ofW (cc := cX6_isCase) (maxL := 1) (ret := (some .boolean)) (by decide) rfl ?_
  intro p e s m args below meth c s₁ B hml hv
  obtain ⟨rfl, hsz, hP, hK, hD0⟩ := hv
  have hx := B.exec
  have hb := B.bytes
  have hr := B.returns
  have hts := atoms_spec (ws := wsX6_isCase) B.pre
  have hown : s.vm.findClass RX6 = some m.cls := findClass_of_methodNamed B.named
  have hlocks := B.notSynchronized
  subst hsz
  have hD := hD0.self (sz := s.heap.size)
  generalize hAe : va_A [] s.heap.size = A at hD ⊢
  have hA : ∀ q : Nat, s.heap.size ≤ q → A q := fun q h => by rw [← hAe]; exact Or.inr h
  have hS : va_S A s.heap s.heap [] := va_S.rf
  have hP : va_P G.1 vwCl [] s.heap := hP
  have hD : va_D A [] := hD
  have hl := lv_entry ([.int v0]) (n := 1) (Nat.le_of_ble_eq_true rfl)
  rw [lg_entry_eq]
  generalize (lg_sl ([.int v0]) ++ List.replicate (1 - (lg_sl ([.int v0])).length) Slot.unset).toArray = ls at hl ⊢
  have hl : lv_has ls 1 [zI 0 v0] := hl
  refine lv_iload_n hx hb dX6_isCase_0 rfl (lv_at hl 0 rfl) ?_
  refine lv_iconst (v := 0) hx hb dX6_isCase_1 (by decide) ?_
  refine lv_bipush (v := 60) hx hb dX6_isCase_2 (by decide) ?_
  have hPc : va_P G.1 vwCl [] s.heap := hP.sub [] rfl
  have hDc : va_D A [] := hD.sub [] (by decide) rfl
  have hFc := va_free (wc := []) hD hS hA [] rfl
  refine va_calli (va_runS (As := [.int v0, .int 0, .int 60]) (rest := []) ⟨hx, hb, hml, hown, hts⟩ (c_X6_in l G v0 0 60 s.heap.size) (va_cwS 3 hts gX6_isCase_X6_in rfl rfl rfl (by decide +kernel) ⟨Nat.le_of_ble_eq_true rfl, Nat.le_of_ble_eq_true rfl⟩) ⟨gPre_blind, fun U hU hW => gPre_of hU hW hK hPc hDc⟩ rfl rfl hl.1 rfl (lv_room (Nat.le_of_ble_eq_true rfl)) dX6_isCase_4 ⟨Nat.le_of_ble_eq_true rfl, Nat.le_of_ble_eq_true rfl⟩) hS (fun q _ h => hFc q h) hFc (fun r_1 u t H locs ht hvm w_2 hB hz1 hk1 hS => ?_)
  obtain ⟨hP1, hK1, hD1⟩ := hB
  rw [ht] at hP1
  have hP1 : va_P G.1 vwCl [] H := hP1
  have hD1 : va_D (va_A [] s.heap.size) [] := hD1
  have w_2 : r_1 = bz (decide (0 ≤ v0 ∧ v0 ≤ 60)) := w_2
  obtain ⟨hP, hD⟩ := va_join (wr := []) (w1 := []) hP hD [] [] rfl rfl (by decide) (by decide) hk1 hFc hP1 hD1
  have hP : va_P G.1 vwCl [] H := hP
  have hD : va_D A [] := hD
  have hq := w_2
  have hP9 := hP.sub (ws' := []) [] rfl
  have hD9 := hD.sub (ws' := []) [] (by decide) rfl
  have hpost : (fun (r : Int32) (u : Unit) => match u with | _ => r = bz (decide (0 ≤ v0 ∧ v0 ≤ 60))) r_1 () := w_2
  exact W.zret (v := r_1) hx hb hr (by rw [w_2]; exact bz_nar _) (fun t ht hW => ⟨⟨r_1, (), rfl, hpost, by rw [ht]; exact hP9, va_K.moved hW.alike hK, hD9⟩, hS.F ht⟩) hS.2.2 dX6_isCase_7
