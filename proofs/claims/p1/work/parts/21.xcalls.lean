/-! small numbers -/
theorem g15 {x : Int32} (h1 : ¬ x < 1) (h5 : ¬ 5 < x) : x = 1 ∨ x = 2 ∨ x = 3 ∨ x = 4 ∨ x = 5 := by
  have a : (1 : Int) ≤ x.toInt := Int32.le_iff_toInt_le.mp (Int32.not_lt.mp h1)
  have b : x.toInt ≤ (5 : Int) := Int32.le_iff_toInt_le.mp (Int32.not_lt.mp h5)
  have e : x.toInt = 1 ∨ x.toInt = 2 ∨ x.toInt = 3 ∨ x.toInt = 4 ∨ x.toInt = 5 := by omega
  rcases e with e | e | e | e | e
  · exact Or.inl (Int32.toInt_inj.mp e)
  · exact Or.inr (Or.inl (Int32.toInt_inj.mp e))
  · exact Or.inr (Or.inr (Or.inl (Int32.toInt_inj.mp e)))
  · exact Or.inr (Or.inr (Or.inr (Or.inl (Int32.toInt_inj.mp e))))
  · exact Or.inr (Or.inr (Or.inr (Or.inr (Int32.toInt_inj.mp e))))
theorem g03 {x : Int32} (h : 0 ≤ x ∧ x ≤ 3) : x = 0 ∨ x = 1 ∨ x = 2 ∨ x = 3 := by
  have a : (0 : Int) ≤ x.toInt := Int32.le_iff_toInt_le.mp h.1
  have b : x.toInt ≤ (3 : Int) := Int32.le_iff_toInt_le.mp h.2
  have e : x.toInt = 0 ∨ x.toInt = 1 ∨ x.toInt = 2 ∨ x.toInt = 3 := by omega
  rcases e with e | e | e | e
  · exact Or.inl (Int32.toInt_inj.mp e)
  · exact Or.inr (Or.inl (Int32.toInt_inj.mp e))
  · exact Or.inr (Or.inr (Or.inl (Int32.toInt_inj.mp e)))
  · exact Or.inr (Or.inr (Or.inr (Int32.toInt_inj.mp e)))
theorem g_in3 {x : Int32} (h : 0 ≤ x ∧ x ≤ 3) : vp_in x 4 := by
  rcases g03 h with e | e | e | e <;> rw [e] <;> exact gIn (by decide)
theorem g_m1 {x : Int32} {f : Nat → Int32} (h : 0 ≤ x ∧ x ≤ 3) : gFl (-1) f 4 x.toNatClampNeg = -1 := by
  rcases g03 h with e | e | e | e <;> rw [e] <;> rfl
theorem g_ne (P : Prop) [Decidable P] : ¬ (if P then (-11 : Int32) else -2) = 0 := by
  by_cases h : P
  · rw [if_pos h]; decide
  · rw [if_neg h]; decide
theorem g_lt1 {x : Int32} (h : x < 1) : x ≤ 0 := by
  have a : x.toInt < (1 : Int) := Int32.lt_iff_toInt_lt.mp h
  exact Int32.le_iff_toInt_le.mpr (by show x.toInt ≤ (0 : Int); omega)
theorem g_le0 {x : Int32} (h : x ≤ 0) : x < 1 := by
  have a : x.toInt ≤ (0 : Int) := Int32.le_iff_toInt_le.mp h
  exact Int32.lt_iff_toInt_lt.mpr (by show x.toInt < (1 : Int); omega)
theorem pp_X0_hasJudge_0_1 (v0 : Int32) (c_1 : v0 < 0) : (0 : Int32) = 0 := by
  first
    | rfl
    | exact bz_pos (by (first | omega | (simp only [Int32.lt_iff_toInt_lt, Int32.le_iff_toInt_le, ← Int32.toInt_inj, Int32.reduceToInt] at * <;> omega)))
    | exact bz_neg (by (first | omega | (simp only [Int32.lt_iff_toInt_lt, Int32.le_iff_toInt_le, ← Int32.toInt_inj, Int32.reduceToInt] at * <;> omega)))
    | ((repeat' split) <;> first | rfl | assumption | (symm; assumption) | (exfalso; (first | omega | (simp only [Int32.lt_iff_toInt_lt, Int32.le_iff_toInt_le, ← Int32.toInt_inj, Int32.reduceToInt] at * <;> omega))))
theorem pp_X0_hasJudge_0_2 (v0 : Int32) (c_1 : ¬ (v0 < 0)) (c_2 : 0 ≤ v0) : (0 : Int32) = 0 := by
  first
    | rfl
    | exact bz_pos (by (first | omega | (simp only [Int32.lt_iff_toInt_lt, Int32.le_iff_toInt_le, ← Int32.toInt_inj, Int32.reduceToInt] at * <;> omega)))
    | exact bz_neg (by (first | omega | (simp only [Int32.lt_iff_toInt_lt, Int32.le_iff_toInt_le, ← Int32.toInt_inj, Int32.reduceToInt] at * <;> omega)))
    | ((repeat' split) <;> first | rfl | assumption | (symm; assumption) | (exfalso; (first | omega | (simp only [Int32.lt_iff_toInt_lt, Int32.le_iff_toInt_le, ← Int32.toInt_inj, Int32.reduceToInt] at * <;> omega))))
theorem pp_X0_hasJudge_0_3 (v0 : Int32) (c_1 : ¬ (v0 < 0)) (c_2 : ¬ (0 ≤ v0)) : (1 : Int32) = 0 := by
  first
    | rfl
    | exact bz_pos (by (first | omega | (simp only [Int32.lt_iff_toInt_lt, Int32.le_iff_toInt_le, ← Int32.toInt_inj, Int32.reduceToInt] at * <;> omega)))
    | exact bz_neg (by (first | omega | (simp only [Int32.lt_iff_toInt_lt, Int32.le_iff_toInt_le, ← Int32.toInt_inj, Int32.reduceToInt] at * <;> omega)))
    | ((repeat' split) <;> first | rfl | assumption | (symm; assumption) | (exfalso; (first | omega | (simp only [Int32.lt_iff_toInt_lt, Int32.le_iff_toInt_le, ← Int32.toInt_inj, Int32.reduceToInt] at * <;> omega))))
abbrev q_X0_hasJudge_0 (G : gG) (nw tt n1 n2 n3 n4 n5 n6 n7 n8 : Nat) (v0 : Int32) (A : Nat → Prop) : Array Value → State → Outcome → State → Prop := va_Qi (fun (r : Int32) (u : Unit) => match u with | _ => r = 0) (fun (u : Unit) t => match u with | _ => va_P G.1 vwCl [(nw, .inr (0, [.ref tt, .ref n1, .ref n2, .ref n3, .ref n4, .ref n5, .ref n6, .ref n7, .ref n8, .int 0, .int 0, .int 0]))] t.heap ∧ gK G t ∧ va_D A [(nw, .inr (0, [.ref tt, .ref n1, .ref n2, .ref n3, .ref n4, .ref n5, .ref n6, .ref n7, .ref n8, .int 0, .int 0, .int 0]))]) A
set_option maxHeartbeats 4000000 in
set_option maxRecDepth 100000 in
theorem c_X0_hasJudge_0 (l : Launch) (G : gG) (nw tt n1 n2 n3 n4 n5 n6 n7 n8 : Nat) (v0 : Int32) (sz : Nat) : Met l yX0_hasJudge wsX0_hasJudge ({ frames := 0, cells := 0, slots := 0, locals := 0 }) (gPre G [.ref nw, .int v0] [(nw, .inr (0, [.ref tt, .ref n1, .ref n2, .ref n3, .ref n4, .ref n5, .ref n6, .ref n7, .ref n8, .int 0, .int 0, .int 0]))] sz) (q_X0_hasJudge_0 G nw tt n1 n2 n3 n4 n5 n6 n7 n8 v0 (va_A [(nw, .inr (0, [.ref tt, .ref n1, .ref n2, .ref n3, .ref n4, .ref n5, .ref n6, .ref n7, .ref n8, .int 0, .int 0, .int 0]))] sz)) 0 0 (va_A [(nw, .inr (0, [.ref tt, .ref n1, .ref n2, .ref n3, .ref n4, .ref n5, .ref n6, .ref n7, .ref n8, .int 0, .int 0, .int 0]))] sz) := by
  refine Met.ofW (cc := cX0_hasJudge) (maxL := 2) (ret := (some .boolean)) (by decide) rfl ?_
  intro p e s m args below meth c s₁ B hml hv
  obtain ⟨rfl, hsz, hP, hK, hD0⟩ := hv
  have hx := B.exec
  have hb := B.bytes
  have hr := B.returns
  have hts := atoms_spec (ws := wsX0_hasJudge) B.pre
  have hown : s.vm.findClass RX0 = some m.cls := findClass_of_methodNamed B.named
  have hlocks := B.notSynchronized
  subst hsz
  have hD := hD0.self (sz := s.heap.size)
  generalize hAe : va_A [(nw, .inr (0, [.ref tt, .ref n1, .ref n2, .ref n3, .ref n4, .ref n5, .ref n6, .ref n7, .ref n8, .int 0, .int 0, .int 0]))] s.heap.size = A at hD ⊢
  have hA : ∀ q : Nat, s.heap.size ≤ q → A q := fun q h => by rw [← hAe]; exact Or.inr h
  have hS : va_S A s.heap s.heap [] := va_S.rf
  have hP : va_P G.1 vwCl [(nw, .inr (0, [.ref tt, .ref n1, .ref n2, .ref n3, .ref n4, .ref n5, .ref n6, .ref n7, .ref n8, .int 0, .int 0, .int 0]))] s.heap := hP
  have hD : va_D A [(nw, .inr (0, [.ref tt, .ref n1, .ref n2, .ref n3, .ref n4, .ref n5, .ref n6, .ref n7, .ref n8, .int 0, .int 0, .int 0]))] := hD
  have hl := lv_entry ([.ref nw, .int v0]) (n := 2) (Nat.le_of_ble_eq_true rfl)
  rw [lg_entry_eq]
  generalize (lg_sl ([.ref nw, .int v0]) ++ List.replicate (2 - (lg_sl ([.ref nw, .int v0])).length) Slot.unset).toArray = ls at hl ⊢
  have hl : lv_has ls 2 [(0, .ref nw), (1, .int v0)] := hl
  have kf48 := hts (.fieldLink RX0 48 "PebbleInShoe$Court" "judges" "I") (by decide +kernel)
  have hiX0 := (by decide +kernel : ∀ w ∈ wsX00, w ∈ wsX0_hasJudge)
  refine lv_iload_n hx hb dX0_hasJudge_0 rfl (lv_at hl 1 rfl) ?_
  refine lv_if_lt (tgt := 16) hx hb dX0_hasJudge_1 (by decide) (fun c_1 => ?_) (fun c_1 => ?_)
  · skip
    refine lv_iconst (v := 0) hx hb dX0_hasJudge_16 (by decide) ?_
    have hP9 := hP.sub (ws' := [(nw, .inr (0, [.ref tt, .ref n1, .ref n2, .ref n3, .ref n4, .ref n5, .ref n6, .ref n7, .ref n8, .int 0, .int 0, .int 0]))]) [0] rfl
    have hD9 := hD.sub (ws' := [(nw, .inr (0, [.ref tt, .ref n1, .ref n2, .ref n3, .ref n4, .ref n5, .ref n6, .ref n7, .ref n8, .int 0, .int 0, .int 0]))]) [0] (by decide) rfl
    have hpost : (fun (r : Int32) (u : Unit) => match u with | _ => r = 0) 0 () := pp_X0_hasJudge_0_1 v0 c_1
    exact W.zret (v := 0) hx hb hr (rfl) (fun t ht hW => ⟨⟨0, (), rfl, hpost, by rw [ht]; exact hP9, va_K.moved hW.alike hK, hD9⟩, hS.F ht⟩) hS.2.2 dX0_hasJudge_17
  · skip
    refine lv_iload_n hx hb dX0_hasJudge_4 rfl (lv_at hl 1 rfl) ?_
    refine lv_aload_n hx hb dX0_hasJudge_5 rfl (lv_at hl 0 rfl) ?_
    refine va_get (D := G.1) (ci := 0) (v := .int 0) (C := RX0) (T := TX0) (N := 12) hx hb hts hiX0 hown hK hP 0 rfl rfl 9 (by decide) kf48 (fun _ h9 => h9) rfl dX0_hasJudge_6 ?_
    refine lv_icmp_ge (tgt := 16) hx hb dX0_hasJudge_9 (by decide) (fun c_2 => ?_) (fun c_2 => ?_)
    · skip
      refine lv_iconst (v := 0) hx hb dX0_hasJudge_16 (by decide) ?_
      have hP9 := hP.sub (ws' := [(nw, .inr (0, [.ref tt, .ref n1, .ref n2, .ref n3, .ref n4, .ref n5, .ref n6, .ref n7, .ref n8, .int 0, .int 0, .int 0]))]) [0] rfl
      have hD9 := hD.sub (ws' := [(nw, .inr (0, [.ref tt, .ref n1, .ref n2, .ref n3, .ref n4, .ref n5, .ref n6, .ref n7, .ref n8, .int 0, .int 0, .int 0]))]) [0] (by decide) rfl
      have hpost : (fun (r : Int32) (u : Unit) => match u with | _ => r = 0) 0 () := pp_X0_hasJudge_0_2 v0 c_1 c_2
      exact W.zret (v := 0) hx hb hr (rfl) (fun t ht hW => ⟨⟨0, (), rfl, hpost, by rw [ht]; exact hP9, va_K.moved hW.alike hK, hD9⟩, hS.F ht⟩) hS.2.2 dX0_hasJudge_17
    · skip
      refine lv_iconst (v := 1) hx hb dX0_hasJudge_12 (by decide) ?_
      refine lv_goto (tgt := 17) hx hb dX0_hasJudge_13 (by decide) ?_
      have hP9 := hP.sub (ws' := [(nw, .inr (0, [.ref tt, .ref n1, .ref n2, .ref n3, .ref n4, .ref n5, .ref n6, .ref n7, .ref n8, .int 0, .int 0, .int 0]))]) [0] rfl
      have hD9 := hD.sub (ws' := [(nw, .inr (0, [.ref tt, .ref n1, .ref n2, .ref n3, .ref n4, .ref n5, .ref n6, .ref n7, .ref n8, .int 0, .int 0, .int 0]))]) [0] (by decide) rfl
      have hpost : (fun (r : Int32) (u : Unit) => match u with | _ => r = 0) 1 () := pp_X0_hasJudge_0_3 v0 c_1 c_2
      exact W.zret (v := 1) hx hb hr (rfl) (fun t ht hW => ⟨⟨1, (), rfl, hpost, by rw [ht]; exact hP9, va_K.moved hW.alike hK, hD9⟩, hS.F ht⟩) hS.2.2 dX0_hasJudge_17
theorem pp_X0_hasPebble_0_1 (v0 : Int32) (c_1 : v0 < 0) : (0 : Int32) = 0 := by
  first
    | rfl
    | exact bz_pos (by (first | omega | (simp only [Int32.lt_iff_toInt_lt, Int32.le_iff_toInt_le, ← Int32.toInt_inj, Int32.reduceToInt] at * <;> omega)))
    | exact bz_neg (by (first | omega | (simp only [Int32.lt_iff_toInt_lt, Int32.le_iff_toInt_le, ← Int32.toInt_inj, Int32.reduceToInt] at * <;> omega)))
    | ((repeat' split) <;> first | rfl | assumption | (symm; assumption) | (exfalso; (first | omega | (simp only [Int32.lt_iff_toInt_lt, Int32.le_iff_toInt_le, ← Int32.toInt_inj, Int32.reduceToInt] at * <;> omega))))
theorem pp_X0_hasPebble_0_2 (v0 : Int32) (c_1 : ¬ (v0 < 0)) (c_2 : 0 ≤ v0) : (0 : Int32) = 0 := by
  first
    | rfl
    | exact bz_pos (by (first | omega | (simp only [Int32.lt_iff_toInt_lt, Int32.le_iff_toInt_le, ← Int32.toInt_inj, Int32.reduceToInt] at * <;> omega)))
    | exact bz_neg (by (first | omega | (simp only [Int32.lt_iff_toInt_lt, Int32.le_iff_toInt_le, ← Int32.toInt_inj, Int32.reduceToInt] at * <;> omega)))
    | ((repeat' split) <;> first | rfl | assumption | (symm; assumption) | (exfalso; (first | omega | (simp only [Int32.lt_iff_toInt_lt, Int32.le_iff_toInt_le, ← Int32.toInt_inj, Int32.reduceToInt] at * <;> omega))))
theorem pp_X0_hasPebble_0_3 (v0 : Int32) (c_1 : ¬ (v0 < 0)) (c_2 : ¬ (0 ≤ v0)) : (1 : Int32) = 0 := by
  first
    | rfl
    | exact bz_pos (by (first | omega | (simp only [Int32.lt_iff_toInt_lt, Int32.le_iff_toInt_le, ← Int32.toInt_inj, Int32.reduceToInt] at * <;> omega)))
    | exact bz_neg (by (first | omega | (simp only [Int32.lt_iff_toInt_lt, Int32.le_iff_toInt_le, ← Int32.toInt_inj, Int32.reduceToInt] at * <;> omega)))
    | ((repeat' split) <;> first | rfl | assumption | (symm; assumption) | (exfalso; (first | omega | (simp only [Int32.lt_iff_toInt_lt, Int32.le_iff_toInt_le, ← Int32.toInt_inj, Int32.reduceToInt] at * <;> omega))))
abbrev q_X0_hasPebble_0 (G : gG) (nw tt n1 n2 n3 n4 n5 n6 n7 n8 : Nat) (v0 : Int32) (A : Nat → Prop) : Array Value → State → Outcome → State → Prop := va_Qi (fun (r : Int32) (u : Unit) => match u with | _ => r = 0) (fun (u : Unit) t => match u with | _ => va_P G.1 vwCl [(nw, .inr (0, [.ref tt, .ref n1, .ref n2, .ref n3, .ref n4, .ref n5, .ref n6, .ref n7, .ref n8, .int 0, .int 0, .int 0]))] t.heap ∧ gK G t ∧ va_D A [(nw, .inr (0, [.ref tt, .ref n1, .ref n2, .ref n3, .ref n4, .ref n5, .ref n6, .ref n7, .ref n8, .int 0, .int 0, .int 0]))]) A
set_option maxHeartbeats 4000000 in
set_option maxRecDepth 100000 in
theorem c_X0_hasPebble_0 (l : Launch) (G : gG) (nw tt n1 n2 n3 n4 n5 n6 n7 n8 : Nat) (v0 : Int32) (sz : Nat) : Met l yX0_hasPebble wsX0_hasPebble ({ frames := 0, cells := 0, slots := 0, locals := 0 }) (gPre G [.ref nw, .int v0] [(nw, .inr (0, [.ref tt, .ref n1, .ref n2, .ref n3, .ref n4, .ref n5, .ref n6, .ref n7, .ref n8, .int 0, .int 0, .int 0]))] sz) (q_X0_hasPebble_0 G nw tt n1 n2 n3 n4 n5 n6 n7 n8 v0 (va_A [(nw, .inr (0, [.ref tt, .ref n1, .ref n2, .ref n3, .ref n4, .ref n5, .ref n6, .ref n7, .ref n8, .int 0, .int 0, .int 0]))] sz)) 0 0 (va_A [(nw, .inr (0, [.ref tt, .ref n1, .ref n2, .ref n3, .ref n4, .ref n5, .ref n6, .ref n7, .ref n8, .int 0, .int 0, .int 0]))] sz) := by
  refine Met.ofW (cc := cX0_hasPebble) (maxL := 2) (ret := (some .boolean)) (by decide) rfl ?_
  intro p e s m args below meth c s₁ B hml hv
  obtain ⟨rfl, hsz, hP, hK, hD0⟩ := hv
  have hx := B.exec
  have hb := B.bytes
  have hr := B.returns
  have hts := atoms_spec (ws := wsX0_hasPebble) B.pre
  have hown : s.vm.findClass RX0 = some m.cls := findClass_of_methodNamed B.named
  have hlocks := B.notSynchronized
  subst hsz
  have hD := hD0.self (sz := s.heap.size)
  generalize hAe : va_A [(nw, .inr (0, [.ref tt, .ref n1, .ref n2, .ref n3, .ref n4, .ref n5, .ref n6, .ref n7, .ref n8, .int 0, .int 0, .int 0]))] s.heap.size = A at hD ⊢
  have hA : ∀ q : Nat, s.heap.size ≤ q → A q := fun q h => by rw [← hAe]; exact Or.inr h
  have hS : va_S A s.heap s.heap [] := va_S.rf
  have hP : va_P G.1 vwCl [(nw, .inr (0, [.ref tt, .ref n1, .ref n2, .ref n3, .ref n4, .ref n5, .ref n6, .ref n7, .ref n8, .int 0, .int 0, .int 0]))] s.heap := hP
  have hD : va_D A [(nw, .inr (0, [.ref tt, .ref n1, .ref n2, .ref n3, .ref n4, .ref n5, .ref n6, .ref n7, .ref n8, .int 0, .int 0, .int 0]))] := hD
  have hl := lv_entry ([.ref nw, .int v0]) (n := 2) (Nat.le_of_ble_eq_true rfl)
  rw [lg_entry_eq]
  generalize (lg_sl ([.ref nw, .int v0]) ++ List.replicate (2 - (lg_sl ([.ref nw, .int v0])).length) Slot.unset).toArray = ls at hl ⊢
  have hl : lv_has ls 2 [(0, .ref nw), (1, .int v0)] := hl
  have kf52 := hts (.fieldLink RX0 52 "PebbleInShoe$Court" "pebbles" "I") (by decide +kernel)
  have hiX0 := (by decide +kernel : ∀ w ∈ wsX00, w ∈ wsX0_hasPebble)
  refine lv_iload_n hx hb dX0_hasPebble_0 rfl (lv_at hl 1 rfl) ?_
  refine lv_if_lt (tgt := 16) hx hb dX0_hasPebble_1 (by decide) (fun c_1 => ?_) (fun c_1 => ?_)
  · skip
    refine lv_iconst (v := 0) hx hb dX0_hasPebble_16 (by decide) ?_
    have hP9 := hP.sub (ws' := [(nw, .inr (0, [.ref tt, .ref n1, .ref n2, .ref n3, .ref n4, .ref n5, .ref n6, .ref n7, .ref n8, .int 0, .int 0, .int 0]))]) [0] rfl
    have hD9 := hD.sub (ws' := [(nw, .inr (0, [.ref tt, .ref n1, .ref n2, .ref n3, .ref n4, .ref n5, .ref n6, .ref n7, .ref n8, .int 0, .int 0, .int 0]))]) [0] (by decide) rfl
    have hpost : (fun (r : Int32) (u : Unit) => match u with | _ => r = 0) 0 () := pp_X0_hasPebble_0_1 v0 c_1
    exact W.zret (v := 0) hx hb hr (rfl) (fun t ht hW => ⟨⟨0, (), rfl, hpost, by rw [ht]; exact hP9, va_K.moved hW.alike hK, hD9⟩, hS.F ht⟩) hS.2.2 dX0_hasPebble_17
  · skip
    refine lv_iload_n hx hb dX0_hasPebble_4 rfl (lv_at hl 1 rfl) ?_
    refine lv_aload_n hx hb dX0_hasPebble_5 rfl (lv_at hl 0 rfl) ?_
    refine va_get (D := G.1) (ci := 0) (v := .int 0) (C := RX0) (T := TX0) (N := 12) hx hb hts hiX0 hown hK hP 0 rfl rfl 10 (by decide) kf52 (fun _ h9 => h9) rfl dX0_hasPebble_6 ?_
    refine lv_icmp_ge (tgt := 16) hx hb dX0_hasPebble_9 (by decide) (fun c_2 => ?_) (fun c_2 => ?_)
    · skip
      refine lv_iconst (v := 0) hx hb dX0_hasPebble_16 (by decide) ?_
      have hP9 := hP.sub (ws' := [(nw, .inr (0, [.ref tt, .ref n1, .ref n2, .ref n3, .ref n4, .ref n5, .ref n6, .ref n7, .ref n8, .int 0, .int 0, .int 0]))]) [0] rfl
      have hD9 := hD.sub (ws' := [(nw, .inr (0, [.ref tt, .ref n1, .ref n2, .ref n3, .ref n4, .ref n5, .ref n6, .ref n7, .ref n8, .int 0, .int 0, .int 0]))]) [0] (by decide) rfl
      have hpost : (fun (r : Int32) (u : Unit) => match u with | _ => r = 0) 0 () := pp_X0_hasPebble_0_2 v0 c_1 c_2
      exact W.zret (v := 0) hx hb hr (rfl) (fun t ht hW => ⟨⟨0, (), rfl, hpost, by rw [ht]; exact hP9, va_K.moved hW.alike hK, hD9⟩, hS.F ht⟩) hS.2.2 dX0_hasPebble_17
    · skip
      refine lv_iconst (v := 1) hx hb dX0_hasPebble_12 (by decide) ?_
      refine lv_goto (tgt := 17) hx hb dX0_hasPebble_13 (by decide) ?_
      have hP9 := hP.sub (ws' := [(nw, .inr (0, [.ref tt, .ref n1, .ref n2, .ref n3, .ref n4, .ref n5, .ref n6, .ref n7, .ref n8, .int 0, .int 0, .int 0]))]) [0] rfl
      have hD9 := hD.sub (ws' := [(nw, .inr (0, [.ref tt, .ref n1, .ref n2, .ref n3, .ref n4, .ref n5, .ref n6, .ref n7, .ref n8, .int 0, .int 0, .int 0]))]) [0] (by decide) rfl
      have hpost : (fun (r : Int32) (u : Unit) => match u with | _ => r = 0) 1 () := pp_X0_hasPebble_0_3 v0 c_1 c_2
      exact W.zret (v := 1) hx hb hr (rfl) (fun t ht hW => ⟨⟨1, (), rfl, hpost, by rw [ht]; exact hP9, va_K.moved hW.alike hK, hD9⟩, hS.F ht⟩) hS.2.2 dX0_hasPebble_17
theorem pp_X0_hasBoth_0_1 (v0 : Int32) (v1 : Int32) : (0 : Int32) = 0 := by
  first
    | rfl
    | exact bz_pos (by (first | omega | (simp only [Int32.lt_iff_toInt_lt, Int32.le_iff_toInt_le, ← Int32.toInt_inj, Int32.reduceToInt] at * <;> omega)))
    | exact bz_neg (by (first | omega | (simp only [Int32.lt_iff_toInt_lt, Int32.le_iff_toInt_le, ← Int32.toInt_inj, Int32.reduceToInt] at * <;> omega)))
    | ((repeat' split) <;> first | rfl | assumption | (symm; assumption) | (exfalso; (first | omega | (simp only [Int32.lt_iff_toInt_lt, Int32.le_iff_toInt_le, ← Int32.toInt_inj, Int32.reduceToInt] at * <;> omega))))
abbrev q_X0_hasBoth_0 (G : gG) (nw tt n1 n2 n3 n4 n5 n6 n7 n8 : Nat) (v0 : Int32) (v1 : Int32) (A : Nat → Prop) : Array Value → State → Outcome → State → Prop := va_Qi (fun (r : Int32) (u : Unit) => match u with | _ => r = 0) (fun (u : Unit) t => match u with | _ => va_P G.1 vwCl [(nw, .inr (0, [.ref tt, .ref n1, .ref n2, .ref n3, .ref n4, .ref n5, .ref n6, .ref n7, .ref n8, .int 0, .int 0, .int 0]))] t.heap ∧ gK G t ∧ va_D A [(nw, .inr (0, [.ref tt, .ref n1, .ref n2, .ref n3, .ref n4, .ref n5, .ref n6, .ref n7, .ref n8, .int 0, .int 0, .int 0]))]) A
set_option maxHeartbeats 4000000 in
set_option maxRecDepth 100000 in
theorem c_X0_hasBoth_0 (l : Launch) (G : gG) (nw tt n1 n2 n3 n4 n5 n6 n7 n8 : Nat) (v0 : Int32) (v1 : Int32) (sz : Nat) : Met l yX0_hasBoth wsX0_hasBoth ({ frames := 1, cells := 0, slots := 0, locals := 21 }) (gPre G [.ref nw, .int v0, .int v1] [(nw, .inr (0, [.ref tt, .ref n1, .ref n2, .ref n3, .ref n4, .ref n5, .ref n6, .ref n7, .ref n8, .int 0, .int 0, .int 0]))] sz) (q_X0_hasBoth_0 G nw tt n1 n2 n3 n4 n5 n6 n7 n8 v0 v1 (va_A [(nw, .inr (0, [.ref tt, .ref n1, .ref n2, .ref n3, .ref n4, .ref n5, .ref n6, .ref n7, .ref n8, .int 0, .int 0, .int 0]))] sz)) 0 0 (va_A [(nw, .inr (0, [.ref tt, .ref n1, .ref n2, .ref n3, .ref n4, .ref n5, .ref n6, .ref n7, .ref n8, .int 0, .int 0, .int 0]))] sz) := by
  refine Met.ofW (cc := cX0_hasBoth) (maxL := 3) (ret := (some .boolean)) (by decide) rfl ?_
  intro p e s m args below meth c s₁ B hml hv
  obtain ⟨rfl, hsz, hP, hK, hD0⟩ := hv
  have hx := B.exec
  have hb := B.bytes
  have hr := B.returns
  have hts := atoms_spec (ws := wsX0_hasBoth) B.pre
  have hown : s.vm.findClass RX0 = some m.cls := findClass_of_methodNamed B.named
  have hlocks := B.notSynchronized
  subst hsz
  have hD := hD0.self (sz := s.heap.size)
  generalize hAe : va_A [(nw, .inr (0, [.ref tt, .ref n1, .ref n2, .ref n3, .ref n4, .ref n5, .ref n6, .ref n7, .ref n8, .int 0, .int 0, .int 0]))] s.heap.size = A at hD ⊢
  have hA : ∀ q : Nat, s.heap.size ≤ q → A q := fun q h => by rw [← hAe]; exact Or.inr h
  have hS : va_S A s.heap s.heap [] := va_S.rf
  have hP : va_P G.1 vwCl [(nw, .inr (0, [.ref tt, .ref n1, .ref n2, .ref n3, .ref n4, .ref n5, .ref n6, .ref n7, .ref n8, .int 0, .int 0, .int 0]))] s.heap := hP
  have hD : va_D A [(nw, .inr (0, [.ref tt, .ref n1, .ref n2, .ref n3, .ref n4, .ref n5, .ref n6, .ref n7, .ref n8, .int 0, .int 0, .int 0]))] := hD
  have hl := lv_entry ([.ref nw, .int v0, .int v1]) (n := 3) (Nat.le_of_ble_eq_true rfl)
  rw [lg_entry_eq]
  generalize (lg_sl ([.ref nw, .int v0, .int v1]) ++ List.replicate (3 - (lg_sl ([.ref nw, .int v0, .int v1])).length) Slot.unset).toArray = ls at hl ⊢
  have hl : lv_has ls 3 [(0, .ref nw), (1, .int v0), (2, .int v1)] := hl
  refine lv_aload_n hx hb dX0_hasBoth_0 rfl (lv_at hl 0 rfl) ?_
  refine lv_iload_n hx hb dX0_hasBoth_1 rfl (lv_at hl 1 rfl) ?_
  have hPc : va_P G.1 vwCl [(nw, .inr (0, [.ref tt, .ref n1, .ref n2, .ref n3, .ref n4, .ref n5, .ref n6, .ref n7, .ref n8, .int 0, .int 0, .int 0]))] s.heap := hP.sub [0] rfl
  have hDc : va_D A [(nw, .inr (0, [.ref tt, .ref n1, .ref n2, .ref n3, .ref n4, .ref n5, .ref n6, .ref n7, .ref n8, .int 0, .int 0, .int 0]))] := hD.sub [0] (by decide) rfl
  have hFc := va_free (wc := [(nw, .inr (0, [.ref tt, .ref n1, .ref n2, .ref n3, .ref n4, .ref n5, .ref n6, .ref n7, .ref n8, .int 0, .int 0, .int 0]))]) hD hS hA [0] rfl
  refine va_calli (va_runV (As := [.int v0]) (rest := []) ⟨hx, hb, hml, hown, hts⟩ (c_X0_hasJudge_0 l G nw tt n1 n2 n3 n4 n5 n6 n7 n8 v0 s.heap.size) (cwV 1 hts gX0_hasBoth_X0_hasJudge rfl rfl rfl (by decide +kernel) ⟨Nat.le_of_ble_eq_true rfl, Nat.le_of_ble_eq_true rfl⟩) ⟨gPre_blind, va_recv hK hPc (ci := 0) (q0 := 0) rfl rfl, fun U hU hW => gPre_of hU hW hK hPc hDc⟩ rfl rfl hl.1 rfl (lv_room (Nat.le_of_ble_eq_true rfl)) dX0_hasBoth_2 ⟨Nat.le_of_ble_eq_true rfl, Nat.le_of_ble_eq_true rfl⟩) hS (fun q _ h => hFc q h) hFc (fun r_1 u t H locs ht hvm w_2 hB hz1 hk1 hS => ?_)
  obtain ⟨hP1, hK1, hD1⟩ := hB
  rw [ht] at hP1
  have hP1 : va_P G.1 vwCl [(nw, .inr (0, [.ref tt, .ref n1, .ref n2, .ref n3, .ref n4, .ref n5, .ref n6, .ref n7, .ref n8, .int 0, .int 0, .int 0]))] H := hP1
  have hD1 : va_D (va_A [(nw, .inr (0, [.ref tt, .ref n1, .ref n2, .ref n3, .ref n4, .ref n5, .ref n6, .ref n7, .ref n8, .int 0, .int 0, .int 0]))] s.heap.size) [(nw, .inr (0, [.ref tt, .ref n1, .ref n2, .ref n3, .ref n4, .ref n5, .ref n6, .ref n7, .ref n8, .int 0, .int 0, .int 0]))] := hD1
  have w_2 : r_1 = 0 := w_2
  obtain ⟨hP, hD⟩ := va_join (wr := []) (w1 := [(nw, .inr (0, [.ref tt, .ref n1, .ref n2, .ref n3, .ref n4, .ref n5, .ref n6, .ref n7, .ref n8, .int 0, .int 0, .int 0]))]) hP hD [0] [] rfl rfl (by decide) (by decide) hk1 hFc hP1 hD1
  have hP : va_P G.1 vwCl [(nw, .inr (0, [.ref tt, .ref n1, .ref n2, .ref n3, .ref n4, .ref n5, .ref n6, .ref n7, .ref n8, .int 0, .int 0, .int 0]))] H := hP
  have hD : va_D A [(nw, .inr (0, [.ref tt, .ref n1, .ref n2, .ref n3, .ref n4, .ref n5, .ref n6, .ref n7, .ref n8, .int 0, .int 0, .int 0]))] := hD
  have w_2 : r_1 = 0 := w_2
  subst w_2
  refine lv_if_eq (tgt := 20) hx hb dX0_hasBoth_5 (by decide) (fun c_3 => ?_) (fun c_3 => ?_)
  rotate_left
  · exact absurd (by decide) c_3
  refine lv_iconst (v := 0) hx hb dX0_hasBoth_20 (by decide) ?_
  have hP9 := hP.sub (ws' := [(nw, .inr (0, [.ref tt, .ref n1, .ref n2, .ref n3, .ref n4, .ref n5, .ref n6, .ref n7, .ref n8, .int 0, .int 0, .int 0]))]) [0] rfl
  have hD9 := hD.sub (ws' := [(nw, .inr (0, [.ref tt, .ref n1, .ref n2, .ref n3, .ref n4, .ref n5, .ref n6, .ref n7, .ref n8, .int 0, .int 0, .int 0]))]) [0] (by decide) rfl
  have hpost : (fun (r : Int32) (u : Unit) => match u with | _ => r = 0) 0 () := pp_X0_hasBoth_0_1 v0 v1 
  exact W.zret (v := 0) hx hb hr (rfl) (fun t ht hW => ⟨⟨0, (), rfl, hpost, by rw [ht]; exact hP9, va_K.moved hW.alike hK, hD9⟩, hS.F ht⟩) hS.2.2 dX0_hasBoth_21
abbrev q_X0_addJudge_0 (G : gG) (nw tt n1 n2 n3 n4 n5 n6 n7 n8 : Nat) (v0 : Int32) (A : Nat → Prop) : Array Value → State → Outcome → State → Prop := va_Qi (fun (r : Int32) (u : Unit) => match u with | _ => r = 0) (fun (u : Unit) t => match u with | _ => va_P G.1 vwCl [(nw, .inr (0, [.ref tt, .ref n1, .ref n2, .ref n3, .ref n4, .ref n5, .ref n6, .ref n7, .ref n8, .int 1, .int 0, .int 0])), (n2, .inl (G.2.1, 4, .inl (upd (fun _ => 0) 0 v0))), (n3, .inl (G.2.1, 4, .inl (upd (fun _ => 0) 0 0))), (n4, .inl (G.2.1, 4, .inl (upd (fun _ => 0) 0 0)))] t.heap ∧ gK G t ∧ va_D A [(nw, .inr (0, [.ref tt, .ref n1, .ref n2, .ref n3, .ref n4, .ref n5, .ref n6, .ref n7, .ref n8, .int 1, .int 0, .int 0])), (n2, .inl (G.2.1, 4, .inl (upd (fun _ => 0) 0 v0))), (n3, .inl (G.2.1, 4, .inl (upd (fun _ => 0) 0 0))), (n4, .inl (G.2.1, 4, .inl (upd (fun _ => 0) 0 0)))]) A
set_option maxHeartbeats 4000000 in
set_option maxRecDepth 100000 in
theorem c_X0_addJudge_0 (l : Launch) (G : gG) (nw tt n1 n2 n3 n4 n5 n6 n7 n8 : Nat) (v0 : Int32) (sz : Nat) : Met l yX0_addJudge wsX0_addJudge ({ frames := 0, cells := 0, slots := 0, locals := 0 }) (gPre G [.ref nw, .int v0] [(nw, .inr (0, [.ref tt, .ref n1, .ref n2, .ref n3, .ref n4, .ref n5, .ref n6, .ref n7, .ref n8, .int 0, .int 0, .int 0])), (n2, .inl (G.2.1, 4, .inl (fun _ => 0))), (n3, .inl (G.2.1, 4, .inl (fun _ => 0))), (n4, .inl (G.2.1, 4, .inl (fun _ => 0)))] sz) (q_X0_addJudge_0 G nw tt n1 n2 n3 n4 n5 n6 n7 n8 v0 (va_A [(nw, .inr (0, [.ref tt, .ref n1, .ref n2, .ref n3, .ref n4, .ref n5, .ref n6, .ref n7, .ref n8, .int 0, .int 0, .int 0])), (n2, .inl (G.2.1, 4, .inl (fun _ => 0))), (n3, .inl (G.2.1, 4, .inl (fun _ => 0))), (n4, .inl (G.2.1, 4, .inl (fun _ => 0)))] sz)) 0 0 (va_A [(nw, .inr (0, [.ref tt, .ref n1, .ref n2, .ref n3, .ref n4, .ref n5, .ref n6, .ref n7, .ref n8, .int 0, .int 0, .int 0])), (n2, .inl (G.2.1, 4, .inl (fun _ => 0))), (n3, .inl (G.2.1, 4, .inl (fun _ => 0))), (n4, .inl (G.2.1, 4, .inl (fun _ => 0)))] sz) := by
  refine Met.ofW (cc := cX0_addJudge) (maxL := 3) (ret := (some .int)) (by decide) rfl ?_
  intro p e s m args below meth c s₁ B hml hv
  obtain ⟨rfl, hsz, hP, hK, hD0⟩ := hv
  have hx := B.exec
  have hb := B.bytes
  have hr := B.returns
  have hts := atoms_spec (ws := wsX0_addJudge) B.pre
  have hown : s.vm.findClass RX0 = some m.cls := findClass_of_methodNamed B.named
  have hlocks := B.notSynchronized
  subst hsz
  have hD := hD0.self (sz := s.heap.size)
  generalize hAe : va_A [(nw, .inr (0, [.ref tt, .ref n1, .ref n2, .ref n3, .ref n4, .ref n5, .ref n6, .ref n7, .ref n8, .int 0, .int 0, .int 0])), (n2, .inl (G.2.1, 4, .inl (fun _ => 0))), (n3, .inl (G.2.1, 4, .inl (fun _ => 0))), (n4, .inl (G.2.1, 4, .inl (fun _ => 0)))] s.heap.size = A at hD ⊢
  have hA : ∀ q : Nat, s.heap.size ≤ q → A q := fun q h => by rw [← hAe]; exact Or.inr h
  have hS : va_S A s.heap s.heap [] := va_S.rf
  have hP : va_P G.1 vwCl [(nw, .inr (0, [.ref tt, .ref n1, .ref n2, .ref n3, .ref n4, .ref n5, .ref n6, .ref n7, .ref n8, .int 0, .int 0, .int 0])), (n2, .inl (G.2.1, 4, .inl (fun _ => 0))), (n3, .inl (G.2.1, 4, .inl (fun _ => 0))), (n4, .inl (G.2.1, 4, .inl (fun _ => 0)))] s.heap := hP
  have hD : va_D A [(nw, .inr (0, [.ref tt, .ref n1, .ref n2, .ref n3, .ref n4, .ref n5, .ref n6, .ref n7, .ref n8, .int 0, .int 0, .int 0])), (n2, .inl (G.2.1, 4, .inl (fun _ => 0))), (n3, .inl (G.2.1, 4, .inl (fun _ => 0))), (n4, .inl (G.2.1, 4, .inl (fun _ => 0)))] := hD
  have hl := lv_entry ([.ref nw, .int v0]) (n := 3) (Nat.le_of_ble_eq_true rfl)
  rw [lg_entry_eq]
  generalize (lg_sl ([.ref nw, .int v0]) ++ List.replicate (3 - (lg_sl ([.ref nw, .int v0])).length) Slot.unset).toArray = ls at hl ⊢
  have hl : lv_has ls 3 [(0, .ref nw), (1, .int v0)] := hl
  have kf48 := hts (.fieldLink RX0 48 "PebbleInShoe$Court" "judges" "I") (by decide +kernel)
  have hiX0 := (by decide +kernel : ∀ w ∈ wsX00, w ∈ wsX0_addJudge)
  have kf17 := hts (.fieldLink RX0 17 "PebbleInShoe$Court" "soles" "[I") (by decide +kernel)
  have kf20 := hts (.fieldLink RX0 20 "PebbleInShoe$Court" "miles" "[I") (by decide +kernel)
  have kf23 := hts (.fieldLink RX0 23 "PebbleInShoe$Court" "pains" "[I") (by decide +kernel)
  refine lv_aload_n hx hb dX0_addJudge_0 rfl (lv_at hl 0 rfl) ?_
  refine va_get (D := G.1) (ci := 0) (v := .int 0) (C := RX0) (T := TX0) (N := 12) hx hb hts hiX0 hown hK hP 0 rfl rfl 9 (by decide) kf48 (fun _ h9 => h9) rfl dX0_addJudge_1 ?_
  refine lv_iconst (v := 4) hx hb dX0_addJudge_4 (by decide) ?_
  refine lv_icmp_lt (tgt := 11) hx hb dX0_addJudge_5 (by decide) (fun c_1 => ?_) (fun c_1 => ?_)
  rotate_left
  · exact absurd (by decide) c_1
  refine lv_aload_n hx hb dX0_addJudge_11 rfl (lv_at hl 0 rfl) ?_
  refine va_get (D := G.1) (ci := 0) (v := .int 0) (C := RX0) (T := TX0) (N := 12) hx hb hts hiX0 hown hK hP 0 rfl rfl 9 (by decide) kf48 (fun _ h9 => h9) rfl dX0_addJudge_12 ?_
  refine lv_istore_n (lv' := [(2, .int 0), (0, .ref nw), (1, .int v0)]) hx hb dX0_addJudge_15 rfl hl (by decide) rfl (fun ls hl => ?_)
  refine lv_aload_n hx hb dX0_addJudge_16 rfl (lv_at hl 1 rfl) ?_
  refine va_get (D := G.1) (ci := 0) (v := .ref n2) (C := RX0) (T := TX0) (N := 12) hx hb hts hiX0 hown hK hP 0 rfl rfl 2 (by decide) kf17 (fun _ h9 => h9) rfl dX0_addJudge_17 ?_
  refine lv_iload_n hx hb dX0_addJudge_20 rfl (lv_at hl 0 rfl) ?_
  refine lv_iload_n hx hb dX0_addJudge_21 rfl (lv_at hl 2 rfl) ?_
  refine va_iast (D := G.1) hx hb hK hP hD hS 1 0 rfl rfl (i := 0) (x := v0) (gIn (by decide)) dX0_addJudge_22 (fun H locs hP hD hS => ?_)
  have hP : va_P G.1 vwCl [(nw, .inr (0, [.ref tt, .ref n1, .ref n2, .ref n3, .ref n4, .ref n5, .ref n6, .ref n7, .ref n8, .int 0, .int 0, .int 0])), (n2, .inl (G.2.1, 4, .inl (upd (fun _ => 0) 0 v0))), (n3, .inl (G.2.1, 4, .inl (fun _ => 0))), (n4, .inl (G.2.1, 4, .inl (fun _ => 0)))] H := hP
  have hD : va_D A [(nw, .inr (0, [.ref tt, .ref n1, .ref n2, .ref n3, .ref n4, .ref n5, .ref n6, .ref n7, .ref n8, .int 0, .int 0, .int 0])), (n2, .inl (G.2.1, 4, .inl (upd (fun _ => 0) 0 v0))), (n3, .inl (G.2.1, 4, .inl (fun _ => 0))), (n4, .inl (G.2.1, 4, .inl (fun _ => 0)))] := hD
  refine lv_aload_n hx hb dX0_addJudge_23 rfl (lv_at hl 1 rfl) ?_
  refine va_get (D := G.1) (ci := 0) (v := .ref n3) (C := RX0) (T := TX0) (N := 12) hx hb hts hiX0 hown hK hP 0 rfl rfl 3 (by decide) kf20 (fun _ h9 => h9) rfl dX0_addJudge_24 ?_
  refine lv_iload_n hx hb dX0_addJudge_27 rfl (lv_at hl 0 rfl) ?_
  refine lv_iconst (v := 0) hx hb dX0_addJudge_28 (by decide) ?_
  refine va_iast (D := G.1) hx hb hK hP hD hS 2 0 rfl rfl (i := 0) (x := 0) (gIn (by decide)) dX0_addJudge_29 (fun H locs hP hD hS => ?_)
  have hP : va_P G.1 vwCl [(nw, .inr (0, [.ref tt, .ref n1, .ref n2, .ref n3, .ref n4, .ref n5, .ref n6, .ref n7, .ref n8, .int 0, .int 0, .int 0])), (n2, .inl (G.2.1, 4, .inl (upd (fun _ => 0) 0 v0))), (n3, .inl (G.2.1, 4, .inl (upd (fun _ => 0) 0 0))), (n4, .inl (G.2.1, 4, .inl (fun _ => 0)))] H := hP
  have hD : va_D A [(nw, .inr (0, [.ref tt, .ref n1, .ref n2, .ref n3, .ref n4, .ref n5, .ref n6, .ref n7, .ref n8, .int 0, .int 0, .int 0])), (n2, .inl (G.2.1, 4, .inl (upd (fun _ => 0) 0 v0))), (n3, .inl (G.2.1, 4, .inl (upd (fun _ => 0) 0 0))), (n4, .inl (G.2.1, 4, .inl (fun _ => 0)))] := hD
  refine lv_aload_n hx hb dX0_addJudge_30 rfl (lv_at hl 1 rfl) ?_
  refine va_get (D := G.1) (ci := 0) (v := .ref n4) (C := RX0) (T := TX0) (N := 12) hx hb hts hiX0 hown hK hP 0 rfl rfl 4 (by decide) kf23 (fun _ h9 => h9) rfl dX0_addJudge_31 ?_
  refine lv_iload_n hx hb dX0_addJudge_34 rfl (lv_at hl 0 rfl) ?_
  refine lv_iconst (v := 0) hx hb dX0_addJudge_35 (by decide) ?_
  refine va_iast (D := G.1) hx hb hK hP hD hS 3 0 rfl rfl (i := 0) (x := 0) (gIn (by decide)) dX0_addJudge_36 (fun H locs hP hD hS => ?_)
  have hP : va_P G.1 vwCl [(nw, .inr (0, [.ref tt, .ref n1, .ref n2, .ref n3, .ref n4, .ref n5, .ref n6, .ref n7, .ref n8, .int 0, .int 0, .int 0])), (n2, .inl (G.2.1, 4, .inl (upd (fun _ => 0) 0 v0))), (n3, .inl (G.2.1, 4, .inl (upd (fun _ => 0) 0 0))), (n4, .inl (G.2.1, 4, .inl (upd (fun _ => 0) 0 0)))] H := hP
  have hD : va_D A [(nw, .inr (0, [.ref tt, .ref n1, .ref n2, .ref n3, .ref n4, .ref n5, .ref n6, .ref n7, .ref n8, .int 0, .int 0, .int 0])), (n2, .inl (G.2.1, 4, .inl (upd (fun _ => 0) 0 v0))), (n3, .inl (G.2.1, 4, .inl (upd (fun _ => 0) 0 0))), (n4, .inl (G.2.1, 4, .inl (upd (fun _ => 0) 0 0)))] := hD
  refine lv_aload_n hx hb dX0_addJudge_37 rfl (lv_at hl 1 rfl) ?_
  refine lv_dup hx hb dX0_addJudge_38 rfl ?_
  refine va_get (D := G.1) (ci := 0) (v := .int 0) (C := RX0) (T := TX0) (N := 12) hx hb hts hiX0 hown hK hP 0 rfl rfl 9 (by decide) kf48 (fun _ h9 => h9) rfl dX0_addJudge_39 ?_
  refine lv_iconst (v := 1) hx hb dX0_addJudge_42 (by decide) ?_
  refine lv_iadd hx hb dX0_addJudge_43 ?_
  refine lv_topi (fun v_2 ev_2 => ?_)
  have ev_2 : v_2 = 1 := ev_2.trans (by decide)
  subst ev_2
  refine va_put (D := G.1) (ci := 0) (v := .int 1) (ty := .int) (C := RX0) (T := TX0) (N := 12) hx hb hts hiX0 tyX0 tyX0_ok nmX0 hown hK hP hD hS 0 rfl rfl 9 (by decide) kf48 (fun _ h9 => h9) rfl (by decide +kernel) rfl rfl (Nat.le_of_ble_eq_true rfl) dX0_addJudge_44 (fun H locs hP hD hS => ?_)
  have hP : va_P G.1 vwCl [(nw, .inr (0, [.ref tt, .ref n1, .ref n2, .ref n3, .ref n4, .ref n5, .ref n6, .ref n7, .ref n8, .int 1, .int 0, .int 0])), (n2, .inl (G.2.1, 4, .inl (upd (fun _ => 0) 0 v0))), (n3, .inl (G.2.1, 4, .inl (upd (fun _ => 0) 0 0))), (n4, .inl (G.2.1, 4, .inl (upd (fun _ => 0) 0 0)))] H := hP
  have hD : va_D A [(nw, .inr (0, [.ref tt, .ref n1, .ref n2, .ref n3, .ref n4, .ref n5, .ref n6, .ref n7, .ref n8, .int 1, .int 0, .int 0])), (n2, .inl (G.2.1, 4, .inl (upd (fun _ => 0) 0 v0))), (n3, .inl (G.2.1, 4, .inl (upd (fun _ => 0) 0 0))), (n4, .inl (G.2.1, 4, .inl (upd (fun _ => 0) 0 0)))] := hD
  refine lv_iload_n hx hb dX0_addJudge_47 rfl (lv_at hl 0 rfl) ?_
  have hP9 := hP.sub (ws' := [(nw, .inr (0, [.ref tt, .ref n1, .ref n2, .ref n3, .ref n4, .ref n5, .ref n6, .ref n7, .ref n8, .int 1, .int 0, .int 0])), (n2, .inl (G.2.1, 4, .inl (upd (fun _ => 0) 0 v0))), (n3, .inl (G.2.1, 4, .inl (upd (fun _ => 0) 0 0))), (n4, .inl (G.2.1, 4, .inl (upd (fun _ => 0) 0 0)))]) [0, 1, 2, 3] rfl
  have hD9 := hD.sub (ws' := [(nw, .inr (0, [.ref tt, .ref n1, .ref n2, .ref n3, .ref n4, .ref n5, .ref n6, .ref n7, .ref n8, .int 1, .int 0, .int 0])), (n2, .inl (G.2.1, 4, .inl (upd (fun _ => 0) 0 v0))), (n3, .inl (G.2.1, 4, .inl (upd (fun _ => 0) 0 0))), (n4, .inl (G.2.1, 4, .inl (upd (fun _ => 0) 0 0)))]) [0, 1, 2, 3] (by decide) rfl
  have hpost : (fun (r : Int32) (u : Unit) => match u with | _ => r = 0) 0 () := rfl
  exact W.iret (v := 0) hx hb hr (fun t ht hW => ⟨⟨0, (), rfl, hpost, by rw [ht]; exact hP9, va_K.moved hW.alike hK, hD9⟩, hS.F ht⟩) hS.2.2 dX0_addJudge_48
abbrev q_X0_addPebble_0 (G : gG) (nw tt n1 n2 n3 n4 n5 n6 n7 n8 : Nat) (v0 : Int32) (v1 : Int32) (A : Nat → Prop) : Array Value → State → Outcome → State → Prop := va_Qi (fun (r : Int32) (u : (Nat → Int32) × (Nat → Int32) × (Nat → Int32) × (Nat → Int32)) => match u with | (y5, y6, y7, y8) => r = 0) (fun (u : (Nat → Int32) × (Nat → Int32) × (Nat → Int32) × (Nat → Int32)) t => match u with | (y5, y6, y7, y8) => va_P G.1 vwCl [(nw, .inr (0, [.ref tt, .ref n1, .ref n2, .ref n3, .ref n4, .ref n5, .ref n6, .ref n7, .ref n8, .int 0, .int 1, .int 0])), (n5, .inl (G.2.1, 6, .inl y5)), (n6, .inl (G.2.1, 6, .inl y6)), (n7, .inl (G.2.1, 6, .inl y7)), (n8, .inl (G.2.1, 6, .inl y8))] t.heap ∧ gK G t ∧ va_D A [(nw, .inr (0, [.ref tt, .ref n1, .ref n2, .ref n3, .ref n4, .ref n5, .ref n6, .ref n7, .ref n8, .int 0, .int 1, .int 0])), (n5, .inl (G.2.1, 6, .inl y5)), (n6, .inl (G.2.1, 6, .inl y6)), (n7, .inl (G.2.1, 6, .inl y7)), (n8, .inl (G.2.1, 6, .inl y8))]) A
set_option maxHeartbeats 4000000 in
set_option maxRecDepth 100000 in
theorem c_X0_addPebble_0 (l : Launch) (G : gG) (nw tt n1 n2 n3 n4 n5 n6 n7 n8 : Nat) (v0 : Int32) (v1 : Int32) (sz : Nat) : Met l yX0_addPebble wsX0_addPebble ({ frames := 0, cells := 0, slots := 0, locals := 0 }) (gPre G [.ref nw, .int v0, .int v1] [(nw, .inr (0, [.ref tt, .ref n1, .ref n2, .ref n3, .ref n4, .ref n5, .ref n6, .ref n7, .ref n8, .int 0, .int 0, .int 0])), (n5, .inl (G.2.1, 6, .inl (fun _ => 0))), (n6, .inl (G.2.1, 6, .inl (fun _ => 0))), (n7, .inl (G.2.1, 6, .inl (fun _ => 0))), (n8, .inl (G.2.1, 6, .inl (fun _ => 0)))] sz) (q_X0_addPebble_0 G nw tt n1 n2 n3 n4 n5 n6 n7 n8 v0 v1 (va_A [(nw, .inr (0, [.ref tt, .ref n1, .ref n2, .ref n3, .ref n4, .ref n5, .ref n6, .ref n7, .ref n8, .int 0, .int 0, .int 0])), (n5, .inl (G.2.1, 6, .inl (fun _ => 0))), (n6, .inl (G.2.1, 6, .inl (fun _ => 0))), (n7, .inl (G.2.1, 6, .inl (fun _ => 0))), (n8, .inl (G.2.1, 6, .inl (fun _ => 0)))] sz)) 0 0 (va_A [(nw, .inr (0, [.ref tt, .ref n1, .ref n2, .ref n3, .ref n4, .ref n5, .ref n6, .ref n7, .ref n8, .int 0, .int 0, .int 0])), (n5, .inl (G.2.1, 6, .inl (fun _ => 0))), (n6, .inl (G.2.1, 6, .inl (fun _ => 0))), (n7, .inl (G.2.1, 6, .inl (fun _ => 0))), (n8, .inl (G.2.1, 6, .inl (fun _ => 0)))] sz) := by
  refine Met.ofW (cc := cX0_addPebble) (maxL := 4) (ret := (some .int)) (by decide) rfl ?_
  intro p e s m args below meth c s₁ B hml hv
  obtain ⟨rfl, hsz, hP, hK, hD0⟩ := hv
  have hx := B.exec
  have hb := B.bytes
  have hr := B.returns
  have hts := atoms_spec (ws := wsX0_addPebble) B.pre
  have hown : s.vm.findClass RX0 = some m.cls := findClass_of_methodNamed B.named
  have hlocks := B.notSynchronized
  subst hsz
  have hD := hD0.self (sz := s.heap.size)
  generalize hAe : va_A [(nw, .inr (0, [.ref tt, .ref n1, .ref n2, .ref n3, .ref n4, .ref n5, .ref n6, .ref n7, .ref n8, .int 0, .int 0, .int 0])), (n5, .inl (G.2.1, 6, .inl (fun _ => 0))), (n6, .inl (G.2.1, 6, .inl (fun _ => 0))), (n7, .inl (G.2.1, 6, .inl (fun _ => 0))), (n8, .inl (G.2.1, 6, .inl (fun _ => 0)))] s.heap.size = A at hD ⊢
  have hA : ∀ q : Nat, s.heap.size ≤ q → A q := fun q h => by rw [← hAe]; exact Or.inr h
  have hS : va_S A s.heap s.heap [] := va_S.rf
  have hP : va_P G.1 vwCl [(nw, .inr (0, [.ref tt, .ref n1, .ref n2, .ref n3, .ref n4, .ref n5, .ref n6, .ref n7, .ref n8, .int 0, .int 0, .int 0])), (n5, .inl (G.2.1, 6, .inl (fun _ => 0))), (n6, .inl (G.2.1, 6, .inl (fun _ => 0))), (n7, .inl (G.2.1, 6, .inl (fun _ => 0))), (n8, .inl (G.2.1, 6, .inl (fun _ => 0)))] s.heap := hP
  have hD : va_D A [(nw, .inr (0, [.ref tt, .ref n1, .ref n2, .ref n3, .ref n4, .ref n5, .ref n6, .ref n7, .ref n8, .int 0, .int 0, .int 0])), (n5, .inl (G.2.1, 6, .inl (fun _ => 0))), (n6, .inl (G.2.1, 6, .inl (fun _ => 0))), (n7, .inl (G.2.1, 6, .inl (fun _ => 0))), (n8, .inl (G.2.1, 6, .inl (fun _ => 0)))] := hD
  have hl := lv_entry ([.ref nw, .int v0, .int v1]) (n := 4) (Nat.le_of_ble_eq_true rfl)
  rw [lg_entry_eq]
  generalize (lg_sl ([.ref nw, .int v0, .int v1]) ++ List.replicate (4 - (lg_sl ([.ref nw, .int v0, .int v1])).length) Slot.unset).toArray = ls at hl ⊢
  have hl : lv_has ls 4 [(0, .ref nw), (1, .int v0), (2, .int v1)] := hl
  have kf52 := hts (.fieldLink RX0 52 "PebbleInShoe$Court" "pebbles" "I") (by decide +kernel)
  have hiX0 := (by decide +kernel : ∀ w ∈ wsX00, w ∈ wsX0_addPebble)
  have kf26 := hts (.fieldLink RX0 26 "PebbleInShoe$Court" "kind" "[I") (by decide +kernel)
  have kf29 := hts (.fieldLink RX0 29 "PebbleInShoe$Court" "more" "[I") (by decide +kernel)
  have kf32 := hts (.fieldLink RX0 32 "PebbleInShoe$Court" "size" "[I") (by decide +kernel)
  have kf35 := hts (.fieldLink RX0 35 "PebbleInShoe$Court" "round" "[I") (by decide +kernel)
  refine lv_aload_n hx hb dX0_addPebble_0 rfl (lv_at hl 0 rfl) ?_
  refine va_get (D := G.1) (ci := 0) (v := .int 0) (C := RX0) (T := TX0) (N := 12) hx hb hts hiX0 hown hK hP 0 rfl rfl 10 (by decide) kf52 (fun _ h9 => h9) rfl dX0_addPebble_1 ?_
  refine lv_bipush (v := 6) hx hb dX0_addPebble_4 (by decide) ?_
  refine lv_icmp_lt (tgt := 12) hx hb dX0_addPebble_6 (by decide) (fun c_1 => ?_) (fun c_1 => ?_)
  rotate_left
  · exact absurd (by decide) c_1
  refine lv_aload_n hx hb dX0_addPebble_12 rfl (lv_at hl 0 rfl) ?_
  refine va_get (D := G.1) (ci := 0) (v := .int 0) (C := RX0) (T := TX0) (N := 12) hx hb hts hiX0 hown hK hP 0 rfl rfl 10 (by decide) kf52 (fun _ h9 => h9) rfl dX0_addPebble_13 ?_
  refine lv_istore_n (lv' := [(3, .int 0), (0, .ref nw), (1, .int v0), (2, .int v1)]) hx hb dX0_addPebble_16 rfl hl (by decide) rfl (fun ls hl => ?_)
  refine lv_aload_n hx hb dX0_addPebble_17 rfl (lv_at hl 1 rfl) ?_
  refine va_get (D := G.1) (ci := 0) (v := .ref n5) (C := RX0) (T := TX0) (N := 12) hx hb hts hiX0 hown hK hP 0 rfl rfl 5 (by decide) kf26 (fun _ h9 => h9) rfl dX0_addPebble_18 ?_
  refine lv_iload_n hx hb dX0_addPebble_21 rfl (lv_at hl 0 rfl) ?_
  refine lv_iload_n hx hb dX0_addPebble_22 rfl (lv_at hl 2 rfl) ?_
  refine lv_bipush (v := 10) hx hb dX0_addPebble_23 (by decide) ?_
  refine lv_idiv hx hb dX0_addPebble_25 (by decide) ?_
  refine va_iast (D := G.1) hx hb hK hP hD hS 1 0 rfl rfl (i := 0) (x := (v0 / 10)) (gIn (by decide)) dX0_addPebble_26 (fun H locs hP hD hS => ?_)
  have hP : va_P G.1 vwCl [(nw, .inr (0, [.ref tt, .ref n1, .ref n2, .ref n3, .ref n4, .ref n5, .ref n6, .ref n7, .ref n8, .int 0, .int 0, .int 0])), (n5, .inl (G.2.1, 6, .inl (upd (fun _ => 0) 0 (v0 / 10)))), (n6, .inl (G.2.1, 6, .inl (fun _ => 0))), (n7, .inl (G.2.1, 6, .inl (fun _ => 0))), (n8, .inl (G.2.1, 6, .inl (fun _ => 0)))] H := hP
  have hD : va_D A [(nw, .inr (0, [.ref tt, .ref n1, .ref n2, .ref n3, .ref n4, .ref n5, .ref n6, .ref n7, .ref n8, .int 0, .int 0, .int 0])), (n5, .inl (G.2.1, 6, .inl (upd (fun _ => 0) 0 (v0 / 10)))), (n6, .inl (G.2.1, 6, .inl (fun _ => 0))), (n7, .inl (G.2.1, 6, .inl (fun _ => 0))), (n8, .inl (G.2.1, 6, .inl (fun _ => 0)))] := hD
  refine lv_aload_n hx hb dX0_addPebble_27 rfl (lv_at hl 1 rfl) ?_
  refine va_get (D := G.1) (ci := 0) (v := .ref n6) (C := RX0) (T := TX0) (N := 12) hx hb hts hiX0 hown hK hP 0 rfl rfl 6 (by decide) kf29 (fun _ h9 => h9) rfl dX0_addPebble_28 ?_
  refine lv_iload_n hx hb dX0_addPebble_31 rfl (lv_at hl 0 rfl) ?_
  refine lv_iload_n hx hb dX0_addPebble_32 rfl (lv_at hl 2 rfl) ?_
  refine lv_bipush (v := 10) hx hb dX0_addPebble_33 (by decide) ?_
  refine lv_irem hx hb dX0_addPebble_35 (by decide) ?_
  refine va_iast (D := G.1) hx hb hK hP hD hS 2 0 rfl rfl (i := 0) (x := (v0 - v0 / 10 * 10)) (gIn (by decide)) dX0_addPebble_36 (fun H locs hP hD hS => ?_)
  have hP : va_P G.1 vwCl [(nw, .inr (0, [.ref tt, .ref n1, .ref n2, .ref n3, .ref n4, .ref n5, .ref n6, .ref n7, .ref n8, .int 0, .int 0, .int 0])), (n5, .inl (G.2.1, 6, .inl (upd (fun _ => 0) 0 (v0 / 10)))), (n6, .inl (G.2.1, 6, .inl (upd (fun _ => 0) 0 (v0 - v0 / 10 * 10)))), (n7, .inl (G.2.1, 6, .inl (fun _ => 0))), (n8, .inl (G.2.1, 6, .inl (fun _ => 0)))] H := hP
  have hD : va_D A [(nw, .inr (0, [.ref tt, .ref n1, .ref n2, .ref n3, .ref n4, .ref n5, .ref n6, .ref n7, .ref n8, .int 0, .int 0, .int 0])), (n5, .inl (G.2.1, 6, .inl (upd (fun _ => 0) 0 (v0 / 10)))), (n6, .inl (G.2.1, 6, .inl (upd (fun _ => 0) 0 (v0 - v0 / 10 * 10)))), (n7, .inl (G.2.1, 6, .inl (fun _ => 0))), (n8, .inl (G.2.1, 6, .inl (fun _ => 0)))] := hD
  refine lv_aload_n hx hb dX0_addPebble_37 rfl (lv_at hl 1 rfl) ?_
  refine va_get (D := G.1) (ci := 0) (v := .ref n7) (C := RX0) (T := TX0) (N := 12) hx hb hts hiX0 hown hK hP 0 rfl rfl 7 (by decide) kf32 (fun _ h9 => h9) rfl dX0_addPebble_38 ?_
  refine lv_iload_n hx hb dX0_addPebble_41 rfl (lv_at hl 0 rfl) ?_
  refine lv_iload_n hx hb dX0_addPebble_42 rfl (lv_at hl 3 rfl) ?_
  refine lv_bipush (v := 100) hx hb dX0_addPebble_43 (by decide) ?_
  refine lv_idiv hx hb dX0_addPebble_45 (by decide) ?_
  refine va_iast (D := G.1) hx hb hK hP hD hS 3 0 rfl rfl (i := 0) (x := (v1 / 100)) (gIn (by decide)) dX0_addPebble_46 (fun H locs hP hD hS => ?_)
  have hP : va_P G.1 vwCl [(nw, .inr (0, [.ref tt, .ref n1, .ref n2, .ref n3, .ref n4, .ref n5, .ref n6, .ref n7, .ref n8, .int 0, .int 0, .int 0])), (n5, .inl (G.2.1, 6, .inl (upd (fun _ => 0) 0 (v0 / 10)))), (n6, .inl (G.2.1, 6, .inl (upd (fun _ => 0) 0 (v0 - v0 / 10 * 10)))), (n7, .inl (G.2.1, 6, .inl (upd (fun _ => 0) 0 (v1 / 100)))), (n8, .inl (G.2.1, 6, .inl (fun _ => 0)))] H := hP
  have hD : va_D A [(nw, .inr (0, [.ref tt, .ref n1, .ref n2, .ref n3, .ref n4, .ref n5, .ref n6, .ref n7, .ref n8, .int 0, .int 0, .int 0])), (n5, .inl (G.2.1, 6, .inl (upd (fun _ => 0) 0 (v0 / 10)))), (n6, .inl (G.2.1, 6, .inl (upd (fun _ => 0) 0 (v0 - v0 / 10 * 10)))), (n7, .inl (G.2.1, 6, .inl (upd (fun _ => 0) 0 (v1 / 100)))), (n8, .inl (G.2.1, 6, .inl (fun _ => 0)))] := hD
  refine lv_aload_n hx hb dX0_addPebble_47 rfl (lv_at hl 1 rfl) ?_
  refine va_get (D := G.1) (ci := 0) (v := .ref n8) (C := RX0) (T := TX0) (N := 12) hx hb hts hiX0 hown hK hP 0 rfl rfl 8 (by decide) kf35 (fun _ h9 => h9) rfl dX0_addPebble_48 ?_
  refine lv_iload_n hx hb dX0_addPebble_51 rfl (lv_at hl 0 rfl) ?_
  refine lv_iload_n hx hb dX0_addPebble_52 rfl (lv_at hl 3 rfl) ?_
  refine lv_bipush (v := 100) hx hb dX0_addPebble_53 (by decide) ?_
  refine lv_irem hx hb dX0_addPebble_55 (by decide) ?_
  refine va_iast (D := G.1) hx hb hK hP hD hS 4 0 rfl rfl (i := 0) (x := (v1 - v1 / 100 * 100)) (gIn (by decide)) dX0_addPebble_56 (fun H locs hP hD hS => ?_)
  have hP : va_P G.1 vwCl [(nw, .inr (0, [.ref tt, .ref n1, .ref n2, .ref n3, .ref n4, .ref n5, .ref n6, .ref n7, .ref n8, .int 0, .int 0, .int 0])), (n5, .inl (G.2.1, 6, .inl (upd (fun _ => 0) 0 (v0 / 10)))), (n6, .inl (G.2.1, 6, .inl (upd (fun _ => 0) 0 (v0 - v0 / 10 * 10)))), (n7, .inl (G.2.1, 6, .inl (upd (fun _ => 0) 0 (v1 / 100)))), (n8, .inl (G.2.1, 6, .inl (upd (fun _ => 0) 0 (v1 - v1 / 100 * 100))))] H := hP
  have hD : va_D A [(nw, .inr (0, [.ref tt, .ref n1, .ref n2, .ref n3, .ref n4, .ref n5, .ref n6, .ref n7, .ref n8, .int 0, .int 0, .int 0])), (n5, .inl (G.2.1, 6, .inl (upd (fun _ => 0) 0 (v0 / 10)))), (n6, .inl (G.2.1, 6, .inl (upd (fun _ => 0) 0 (v0 - v0 / 10 * 10)))), (n7, .inl (G.2.1, 6, .inl (upd (fun _ => 0) 0 (v1 / 100)))), (n8, .inl (G.2.1, 6, .inl (upd (fun _ => 0) 0 (v1 - v1 / 100 * 100))))] := hD
  refine lv_aload_n hx hb dX0_addPebble_57 rfl (lv_at hl 1 rfl) ?_
  refine lv_dup hx hb dX0_addPebble_58 rfl ?_
  refine va_get (D := G.1) (ci := 0) (v := .int 0) (C := RX0) (T := TX0) (N := 12) hx hb hts hiX0 hown hK hP 0 rfl rfl 10 (by decide) kf52 (fun _ h9 => h9) rfl dX0_addPebble_59 ?_
  refine lv_iconst (v := 1) hx hb dX0_addPebble_62 (by decide) ?_
  refine lv_iadd hx hb dX0_addPebble_63 ?_
  refine lv_topi (fun v_2 ev_2 => ?_)
  have ev_2 : v_2 = 1 := ev_2.trans (by decide)
  subst ev_2
  refine va_put (D := G.1) (ci := 0) (v := .int 1) (ty := .int) (C := RX0) (T := TX0) (N := 12) hx hb hts hiX0 tyX0 tyX0_ok nmX0 hown hK hP hD hS 0 rfl rfl 10 (by decide) kf52 (fun _ h9 => h9) rfl (by decide +kernel) rfl rfl (Nat.le_of_ble_eq_true rfl) dX0_addPebble_64 (fun H locs hP hD hS => ?_)
  have hP : va_P G.1 vwCl [(nw, .inr (0, [.ref tt, .ref n1, .ref n2, .ref n3, .ref n4, .ref n5, .ref n6, .ref n7, .ref n8, .int 0, .int 1, .int 0])), (n5, .inl (G.2.1, 6, .inl (upd (fun _ => 0) 0 (v0 / 10)))), (n6, .inl (G.2.1, 6, .inl (upd (fun _ => 0) 0 (v0 - v0 / 10 * 10)))), (n7, .inl (G.2.1, 6, .inl (upd (fun _ => 0) 0 (v1 / 100)))), (n8, .inl (G.2.1, 6, .inl (upd (fun _ => 0) 0 (v1 - v1 / 100 * 100))))] H := hP
  have hD : va_D A [(nw, .inr (0, [.ref tt, .ref n1, .ref n2, .ref n3, .ref n4, .ref n5, .ref n6, .ref n7, .ref n8, .int 0, .int 1, .int 0])), (n5, .inl (G.2.1, 6, .inl (upd (fun _ => 0) 0 (v0 / 10)))), (n6, .inl (G.2.1, 6, .inl (upd (fun _ => 0) 0 (v0 - v0 / 10 * 10)))), (n7, .inl (G.2.1, 6, .inl (upd (fun _ => 0) 0 (v1 / 100)))), (n8, .inl (G.2.1, 6, .inl (upd (fun _ => 0) 0 (v1 - v1 / 100 * 100))))] := hD
  refine lv_iload_n hx hb dX0_addPebble_67 rfl (lv_at hl 0 rfl) ?_
  have hP9 := hP.sub (ws' := [(nw, .inr (0, [.ref tt, .ref n1, .ref n2, .ref n3, .ref n4, .ref n5, .ref n6, .ref n7, .ref n8, .int 0, .int 1, .int 0])), (n5, .inl (G.2.1, 6, .inl (upd (fun _ => 0) 0 (v0 / 10)))), (n6, .inl (G.2.1, 6, .inl (upd (fun _ => 0) 0 (v0 - v0 / 10 * 10)))), (n7, .inl (G.2.1, 6, .inl (upd (fun _ => 0) 0 (v1 / 100)))), (n8, .inl (G.2.1, 6, .inl (upd (fun _ => 0) 0 (v1 - v1 / 100 * 100))))]) [0, 1, 2, 3, 4] rfl
  have hD9 := hD.sub (ws' := [(nw, .inr (0, [.ref tt, .ref n1, .ref n2, .ref n3, .ref n4, .ref n5, .ref n6, .ref n7, .ref n8, .int 0, .int 1, .int 0])), (n5, .inl (G.2.1, 6, .inl (upd (fun _ => 0) 0 (v0 / 10)))), (n6, .inl (G.2.1, 6, .inl (upd (fun _ => 0) 0 (v0 - v0 / 10 * 10)))), (n7, .inl (G.2.1, 6, .inl (upd (fun _ => 0) 0 (v1 / 100)))), (n8, .inl (G.2.1, 6, .inl (upd (fun _ => 0) 0 (v1 - v1 / 100 * 100))))]) [0, 1, 2, 3, 4] (by decide) rfl
  have hpost : (fun (r : Int32) (u : (Nat → Int32) × (Nat → Int32) × (Nat → Int32) × (Nat → Int32)) => match u with | (y5, y6, y7, y8) => r = 0) 0 (upd (fun _ => 0) 0 (v0 / 10), upd (fun _ => 0) 0 (v0 - v0 / 10 * 10), upd (fun _ => 0) 0 (v1 / 100), upd (fun _ => 0) 0 (v1 - v1 / 100 * 100)) := rfl
  exact W.iret (v := 0) hx hb hr (fun t ht hW => ⟨⟨0, (upd (fun _ => 0) 0 (v0 / 10), upd (fun _ => 0) 0 (v0 - v0 / 10 * 10), upd (fun _ => 0) 0 (v1 / 100), upd (fun _ => 0) 0 (v1 - v1 / 100 * 100)), rfl, hpost, by rw [ht]; exact hP9, va_K.moved hW.alike hK, hD9⟩, hS.F ht⟩) hS.2.2 dX0_addPebble_68
abbrev q_X0_become_0 (G : gG) (kp nw tt n1 n2 n3 n4 n5 n6 n7 n8 k1 k2 k3 k4 k5 k6 k7 k8 : Nat) (A : Nat → Prop) : Array Value → State → Outcome → State → Prop := va_Qv (fun (u : (Nat → Int32) × (Nat → Int32) × (Nat → Int32) × (Nat → Int32) × (Nat → Int32) × (Nat → Int32) × (Nat → Int32)) => match u with | (y2, y3, y4, y5, y6, y7, y8) => True) (fun (u : (Nat → Int32) × (Nat → Int32) × (Nat → Int32) × (Nat → Int32) × (Nat → Int32) × (Nat → Int32) × (Nat → Int32)) t => match u with | (y2, y3, y4, y5, y6, y7, y8) => va_P G.1 vwCl [(nw, .inr (0, [.ref tt, .ref n1, .ref n2, .ref n3, .ref n4, .ref n5, .ref n6, .ref n7, .ref n8, .int 0, .int 0, .int 0])), (n2, .inl (G.2.1, 4, .inl (fun _ => 0))), (n3, .inl (G.2.1, 4, .inl (fun _ => 0))), (n4, .inl (G.2.1, 4, .inl (fun _ => 0))), (n5, .inl (G.2.1, 6, .inl (fun _ => 0))), (n6, .inl (G.2.1, 6, .inl (fun _ => 0))), (n7, .inl (G.2.1, 6, .inl (fun _ => 0))), (n8, .inl (G.2.1, 6, .inl (fun _ => 0))), (kp, .inr (0, [.ref tt, .ref k1, .ref k2, .ref k3, .ref k4, .ref k5, .ref k6, .ref k7, .ref k8, .int 0, .int 0, .int 0])), (k2, .inl (G.2.1, 4, .inl y2)), (k3, .inl (G.2.1, 4, .inl y3)), (k4, .inl (G.2.1, 4, .inl y4)), (k5, .inl (G.2.1, 6, .inl y5)), (k6, .inl (G.2.1, 6, .inl y6)), (k7, .inl (G.2.1, 6, .inl y7)), (k8, .inl (G.2.1, 6, .inl y8))] t.heap ∧ gK G t ∧ va_D A [(nw, .inr (0, [.ref tt, .ref n1, .ref n2, .ref n3, .ref n4, .ref n5, .ref n6, .ref n7, .ref n8, .int 0, .int 0, .int 0])), (n2, .inl (G.2.1, 4, .inl (fun _ => 0))), (n3, .inl (G.2.1, 4, .inl (fun _ => 0))), (n4, .inl (G.2.1, 4, .inl (fun _ => 0))), (n5, .inl (G.2.1, 6, .inl (fun _ => 0))), (n6, .inl (G.2.1, 6, .inl (fun _ => 0))), (n7, .inl (G.2.1, 6, .inl (fun _ => 0))), (n8, .inl (G.2.1, 6, .inl (fun _ => 0))), (kp, .inr (0, [.ref tt, .ref k1, .ref k2, .ref k3, .ref k4, .ref k5, .ref k6, .ref k7, .ref k8, .int 0, .int 0, .int 0])), (k2, .inl (G.2.1, 4, .inl y2)), (k3, .inl (G.2.1, 4, .inl y3)), (k4, .inl (G.2.1, 4, .inl y4)), (k5, .inl (G.2.1, 6, .inl y5)), (k6, .inl (G.2.1, 6, .inl y6)), (k7, .inl (G.2.1, 6, .inl y7)), (k8, .inl (G.2.1, 6, .inl y8))]) A
set_option maxHeartbeats 4000000 in
set_option maxRecDepth 100000 in
theorem c_X0_become_0 (l : Launch) (G : gG) (kp nw tt n1 n2 n3 n4 n5 n6 n7 n8 k1 k2 k3 k4 k5 k6 k7 k8 : Nat) (sz : Nat) : Met l yX0_become wsX0_become ({ frames := 1, cells := 0, slots := 0, locals := 400 }) (gPre G [.ref kp, .ref nw] [(nw, .inr (0, [.ref tt, .ref n1, .ref n2, .ref n3, .ref n4, .ref n5, .ref n6, .ref n7, .ref n8, .int 0, .int 0, .int 0])), (n2, .inl (G.2.1, 4, .inl (fun _ => 0))), (n3, .inl (G.2.1, 4, .inl (fun _ => 0))), (n4, .inl (G.2.1, 4, .inl (fun _ => 0))), (n5, .inl (G.2.1, 6, .inl (fun _ => 0))), (n6, .inl (G.2.1, 6, .inl (fun _ => 0))), (n7, .inl (G.2.1, 6, .inl (fun _ => 0))), (n8, .inl (G.2.1, 6, .inl (fun _ => 0))), (kp, .inr (0, [.ref tt, .ref k1, .ref k2, .ref k3, .ref k4, .ref k5, .ref k6, .ref k7, .ref k8, .int 0, .int 0, .int 0])), (k2, .inl (G.2.1, 4, .inl (fun _ => 0))), (k3, .inl (G.2.1, 4, .inl (fun _ => 0))), (k4, .inl (G.2.1, 4, .inl (fun _ => 0))), (k5, .inl (G.2.1, 6, .inl (fun _ => 0))), (k6, .inl (G.2.1, 6, .inl (fun _ => 0))), (k7, .inl (G.2.1, 6, .inl (fun _ => 0))), (k8, .inl (G.2.1, 6, .inl (fun _ => 0)))] sz) (q_X0_become_0 G kp nw tt n1 n2 n3 n4 n5 n6 n7 n8 k1 k2 k3 k4 k5 k6 k7 k8 (va_A [(nw, .inr (0, [.ref tt, .ref n1, .ref n2, .ref n3, .ref n4, .ref n5, .ref n6, .ref n7, .ref n8, .int 0, .int 0, .int 0])), (n2, .inl (G.2.1, 4, .inl (fun _ => 0))), (n3, .inl (G.2.1, 4, .inl (fun _ => 0))), (n4, .inl (G.2.1, 4, .inl (fun _ => 0))), (n5, .inl (G.2.1, 6, .inl (fun _ => 0))), (n6, .inl (G.2.1, 6, .inl (fun _ => 0))), (n7, .inl (G.2.1, 6, .inl (fun _ => 0))), (n8, .inl (G.2.1, 6, .inl (fun _ => 0))), (kp, .inr (0, [.ref tt, .ref k1, .ref k2, .ref k3, .ref k4, .ref k5, .ref k6, .ref k7, .ref k8, .int 0, .int 0, .int 0])), (k2, .inl (G.2.1, 4, .inl (fun _ => 0))), (k3, .inl (G.2.1, 4, .inl (fun _ => 0))), (k4, .inl (G.2.1, 4, .inl (fun _ => 0))), (k5, .inl (G.2.1, 6, .inl (fun _ => 0))), (k6, .inl (G.2.1, 6, .inl (fun _ => 0))), (k7, .inl (G.2.1, 6, .inl (fun _ => 0))), (k8, .inl (G.2.1, 6, .inl (fun _ => 0)))] sz)) 0 0 (va_A [(nw, .inr (0, [.ref tt, .ref n1, .ref n2, .ref n3, .ref n4, .ref n5, .ref n6, .ref n7, .ref n8, .int 0, .int 0, .int 0])), (n2, .inl (G.2.1, 4, .inl (fun _ => 0))), (n3, .inl (G.2.1, 4, .inl (fun _ => 0))), (n4, .inl (G.2.1, 4, .inl (fun _ => 0))), (n5, .inl (G.2.1, 6, .inl (fun _ => 0))), (n6, .inl (G.2.1, 6, .inl (fun _ => 0))), (n7, .inl (G.2.1, 6, .inl (fun _ => 0))), (n8, .inl (G.2.1, 6, .inl (fun _ => 0))), (kp, .inr (0, [.ref tt, .ref k1, .ref k2, .ref k3, .ref k4, .ref k5, .ref k6, .ref k7, .ref k8, .int 0, .int 0, .int 0])), (k2, .inl (G.2.1, 4, .inl (fun _ => 0))), (k3, .inl (G.2.1, 4, .inl (fun _ => 0))), (k4, .inl (G.2.1, 4, .inl (fun _ => 0))), (k5, .inl (G.2.1, 6, .inl (fun _ => 0))), (k6, .inl (G.2.1, 6, .inl (fun _ => 0))), (k7, .inl (G.2.1, 6, .inl (fun _ => 0))), (k8, .inl (G.2.1, 6, .inl (fun _ => 0)))] sz) := by
  refine Met.ofW (cc := cX0_become) (maxL := 2) (ret := none) (by decide) rfl ?_
  intro p e s m args below meth c s₁ B hml hv
  obtain ⟨rfl, hsz, hP, hK, hD0⟩ := hv
  have hx := B.exec
  have hb := B.bytes
  have hr := B.returns
  have hts := atoms_spec (ws := wsX0_become) B.pre
  have hown : s.vm.findClass RX0 = some m.cls := findClass_of_methodNamed B.named
  have hlocks := B.notSynchronized
  subst hsz
  have hD := hD0.self (sz := s.heap.size)
  generalize hAe : va_A [(nw, .inr (0, [.ref tt, .ref n1, .ref n2, .ref n3, .ref n4, .ref n5, .ref n6, .ref n7, .ref n8, .int 0, .int 0, .int 0])), (n2, .inl (G.2.1, 4, .inl (fun _ => 0))), (n3, .inl (G.2.1, 4, .inl (fun _ => 0))), (n4, .inl (G.2.1, 4, .inl (fun _ => 0))), (n5, .inl (G.2.1, 6, .inl (fun _ => 0))), (n6, .inl (G.2.1, 6, .inl (fun _ => 0))), (n7, .inl (G.2.1, 6, .inl (fun _ => 0))), (n8, .inl (G.2.1, 6, .inl (fun _ => 0))), (kp, .inr (0, [.ref tt, .ref k1, .ref k2, .ref k3, .ref k4, .ref k5, .ref k6, .ref k7, .ref k8, .int 0, .int 0, .int 0])), (k2, .inl (G.2.1, 4, .inl (fun _ => 0))), (k3, .inl (G.2.1, 4, .inl (fun _ => 0))), (k4, .inl (G.2.1, 4, .inl (fun _ => 0))), (k5, .inl (G.2.1, 6, .inl (fun _ => 0))), (k6, .inl (G.2.1, 6, .inl (fun _ => 0))), (k7, .inl (G.2.1, 6, .inl (fun _ => 0))), (k8, .inl (G.2.1, 6, .inl (fun _ => 0)))] s.heap.size = A at hD ⊢
  have hA : ∀ q : Nat, s.heap.size ≤ q → A q := fun q h => by rw [← hAe]; exact Or.inr h
  have hS : va_S A s.heap s.heap [] := va_S.rf
  have hP : va_P G.1 vwCl [(nw, .inr (0, [.ref tt, .ref n1, .ref n2, .ref n3, .ref n4, .ref n5, .ref n6, .ref n7, .ref n8, .int 0, .int 0, .int 0])), (n2, .inl (G.2.1, 4, .inl (fun _ => 0))), (n3, .inl (G.2.1, 4, .inl (fun _ => 0))), (n4, .inl (G.2.1, 4, .inl (fun _ => 0))), (n5, .inl (G.2.1, 6, .inl (fun _ => 0))), (n6, .inl (G.2.1, 6, .inl (fun _ => 0))), (n7, .inl (G.2.1, 6, .inl (fun _ => 0))), (n8, .inl (G.2.1, 6, .inl (fun _ => 0))), (kp, .inr (0, [.ref tt, .ref k1, .ref k2, .ref k3, .ref k4, .ref k5, .ref k6, .ref k7, .ref k8, .int 0, .int 0, .int 0])), (k2, .inl (G.2.1, 4, .inl (fun _ => 0))), (k3, .inl (G.2.1, 4, .inl (fun _ => 0))), (k4, .inl (G.2.1, 4, .inl (fun _ => 0))), (k5, .inl (G.2.1, 6, .inl (fun _ => 0))), (k6, .inl (G.2.1, 6, .inl (fun _ => 0))), (k7, .inl (G.2.1, 6, .inl (fun _ => 0))), (k8, .inl (G.2.1, 6, .inl (fun _ => 0)))] s.heap := hP
  have hD : va_D A [(nw, .inr (0, [.ref tt, .ref n1, .ref n2, .ref n3, .ref n4, .ref n5, .ref n6, .ref n7, .ref n8, .int 0, .int 0, .int 0])), (n2, .inl (G.2.1, 4, .inl (fun _ => 0))), (n3, .inl (G.2.1, 4, .inl (fun _ => 0))), (n4, .inl (G.2.1, 4, .inl (fun _ => 0))), (n5, .inl (G.2.1, 6, .inl (fun _ => 0))), (n6, .inl (G.2.1, 6, .inl (fun _ => 0))), (n7, .inl (G.2.1, 6, .inl (fun _ => 0))), (n8, .inl (G.2.1, 6, .inl (fun _ => 0))), (kp, .inr (0, [.ref tt, .ref k1, .ref k2, .ref k3, .ref k4, .ref k5, .ref k6, .ref k7, .ref k8, .int 0, .int 0, .int 0])), (k2, .inl (G.2.1, 4, .inl (fun _ => 0))), (k3, .inl (G.2.1, 4, .inl (fun _ => 0))), (k4, .inl (G.2.1, 4, .inl (fun _ => 0))), (k5, .inl (G.2.1, 6, .inl (fun _ => 0))), (k6, .inl (G.2.1, 6, .inl (fun _ => 0))), (k7, .inl (G.2.1, 6, .inl (fun _ => 0))), (k8, .inl (G.2.1, 6, .inl (fun _ => 0)))] := hD
  have hl := lv_entry ([.ref kp, .ref nw]) (n := 2) (Nat.le_of_ble_eq_true rfl)
  rw [lg_entry_eq]
  generalize (lg_sl ([.ref kp, .ref nw]) ++ List.replicate (2 - (lg_sl ([.ref kp, .ref nw])).length) Slot.unset).toArray = ls at hl ⊢
  have hl : lv_has ls 2 [(0, .ref kp), (1, .ref nw)] := hl
  have kf17 := hts (.fieldLink RX0 17 "PebbleInShoe$Court" "soles" "[I") (by decide +kernel)
  have hiX0 := (by decide +kernel : ∀ w ∈ wsX00, w ∈ wsX0_become)
  have kf20 := hts (.fieldLink RX0 20 "PebbleInShoe$Court" "miles" "[I") (by decide +kernel)
  have kf23 := hts (.fieldLink RX0 23 "PebbleInShoe$Court" "pains" "[I") (by decide +kernel)
  have kf26 := hts (.fieldLink RX0 26 "PebbleInShoe$Court" "kind" "[I") (by decide +kernel)
  have kf29 := hts (.fieldLink RX0 29 "PebbleInShoe$Court" "more" "[I") (by decide +kernel)
  have kf32 := hts (.fieldLink RX0 32 "PebbleInShoe$Court" "size" "[I") (by decide +kernel)
  have kf35 := hts (.fieldLink RX0 35 "PebbleInShoe$Court" "round" "[I") (by decide +kernel)
  have kf48 := hts (.fieldLink RX0 48 "PebbleInShoe$Court" "judges" "I") (by decide +kernel)
  have kf52 := hts (.fieldLink RX0 52 "PebbleInShoe$Court" "pebbles" "I") (by decide +kernel)
  have kf55 := hts (.fieldLink RX0 55 "PebbleInShoe$Court" "law" "I") (by decide +kernel)
  refine lv_aload_n hx hb dX0_become_0 rfl (lv_at hl 1 rfl) ?_
  refine va_get (D := G.1) (ci := 0) (v := .ref n2) (C := RX0) (T := TX0) (N := 12) hx hb hts hiX0 hown hK hP 0 rfl rfl 2 (by decide) kf17 (fun _ h9 => h9) rfl dX0_become_1 ?_
  refine lv_iconst (v := 0) hx hb dX0_become_4 (by decide) ?_
  refine lv_aload_n hx hb dX0_become_5 rfl (lv_at hl 0 rfl) ?_
  refine va_get (D := G.1) (ci := 0) (v := .ref k2) (C := RX0) (T := TX0) (N := 12) hx hb hts hiX0 hown hK hP 8 rfl rfl 2 (by decide) kf17 (fun _ h9 => h9) rfl dX0_become_6 ?_
  refine lv_iconst (v := 0) hx hb dX0_become_9 (by decide) ?_
  refine lv_iconst (v := 4) hx hb dX0_become_10 (by decide) ?_
  refine va_copyi (D := G.1) (ty := .int) hx hb (by rw [hml]; exact hl.1.symm) hown (hts (.methodLink RX0 42 arraycopyName) (by decide +kernel)) (hts (.native arraycopyName) (by decide +kernel)) (hts (.static arraycopyName) (by decide +kernel)) (hts (.initialized "java/lang/System") (by decide +kernel)) hK hP hD hS 1 9 0 0 rfl rfl rfl rfl rfl (by decide) (by decide) (by decide) (by decide) (by decide) (fun _ _ => rfl) (Nat.le_of_ble_eq_true rfl) (Nat.le_of_ble_eq_true rfl) dX0_become_11 (fun H locs hP hD hS => ?_)
  have hP : va_P G.1 vwCl [(nw, .inr (0, [.ref tt, .ref n1, .ref n2, .ref n3, .ref n4, .ref n5, .ref n6, .ref n7, .ref n8, .int 0, .int 0, .int 0])), (n2, .inl (G.2.1, 4, .inl (fun _ => 0))), (n3, .inl (G.2.1, 4, .inl (fun _ => 0))), (n4, .inl (G.2.1, 4, .inl (fun _ => 0))), (n5, .inl (G.2.1, 6, .inl (fun _ => 0))), (n6, .inl (G.2.1, 6, .inl (fun _ => 0))), (n7, .inl (G.2.1, 6, .inl (fun _ => 0))), (n8, .inl (G.2.1, 6, .inl (fun _ => 0))), (kp, .inr (0, [.ref tt, .ref k1, .ref k2, .ref k3, .ref k4, .ref k5, .ref k6, .ref k7, .ref k8, .int 0, .int 0, .int 0])), (k2, .inl (G.2.1, 4, .inl (va_cpy (fun _ => 0) (fun _ => 0) 0 0 4))), (k3, .inl (G.2.1, 4, .inl (fun _ => 0))), (k4, .inl (G.2.1, 4, .inl (fun _ => 0))), (k5, .inl (G.2.1, 6, .inl (fun _ => 0))), (k6, .inl (G.2.1, 6, .inl (fun _ => 0))), (k7, .inl (G.2.1, 6, .inl (fun _ => 0))), (k8, .inl (G.2.1, 6, .inl (fun _ => 0)))] H := hP
  have hD : va_D A [(nw, .inr (0, [.ref tt, .ref n1, .ref n2, .ref n3, .ref n4, .ref n5, .ref n6, .ref n7, .ref n8, .int 0, .int 0, .int 0])), (n2, .inl (G.2.1, 4, .inl (fun _ => 0))), (n3, .inl (G.2.1, 4, .inl (fun _ => 0))), (n4, .inl (G.2.1, 4, .inl (fun _ => 0))), (n5, .inl (G.2.1, 6, .inl (fun _ => 0))), (n6, .inl (G.2.1, 6, .inl (fun _ => 0))), (n7, .inl (G.2.1, 6, .inl (fun _ => 0))), (n8, .inl (G.2.1, 6, .inl (fun _ => 0))), (kp, .inr (0, [.ref tt, .ref k1, .ref k2, .ref k3, .ref k4, .ref k5, .ref k6, .ref k7, .ref k8, .int 0, .int 0, .int 0])), (k2, .inl (G.2.1, 4, .inl (va_cpy (fun _ => 0) (fun _ => 0) 0 0 4))), (k3, .inl (G.2.1, 4, .inl (fun _ => 0))), (k4, .inl (G.2.1, 4, .inl (fun _ => 0))), (k5, .inl (G.2.1, 6, .inl (fun _ => 0))), (k6, .inl (G.2.1, 6, .inl (fun _ => 0))), (k7, .inl (G.2.1, 6, .inl (fun _ => 0))), (k8, .inl (G.2.1, 6, .inl (fun _ => 0)))] := hD
  refine lv_aload_n hx hb dX0_become_14 rfl (lv_at hl 1 rfl) ?_
  refine va_get (D := G.1) (ci := 0) (v := .ref n3) (C := RX0) (T := TX0) (N := 12) hx hb hts hiX0 hown hK hP 0 rfl rfl 3 (by decide) kf20 (fun _ h9 => h9) rfl dX0_become_15 ?_
  refine lv_iconst (v := 0) hx hb dX0_become_18 (by decide) ?_
  refine lv_aload_n hx hb dX0_become_19 rfl (lv_at hl 0 rfl) ?_
  refine va_get (D := G.1) (ci := 0) (v := .ref k3) (C := RX0) (T := TX0) (N := 12) hx hb hts hiX0 hown hK hP 8 rfl rfl 3 (by decide) kf20 (fun _ h9 => h9) rfl dX0_become_20 ?_
  refine lv_iconst (v := 0) hx hb dX0_become_23 (by decide) ?_
  refine lv_iconst (v := 4) hx hb dX0_become_24 (by decide) ?_
  refine va_copyi (D := G.1) (ty := .int) hx hb (by rw [hml]; exact hl.1.symm) hown (hts (.methodLink RX0 42 arraycopyName) (by decide +kernel)) (hts (.native arraycopyName) (by decide +kernel)) (hts (.static arraycopyName) (by decide +kernel)) (hts (.initialized "java/lang/System") (by decide +kernel)) hK hP hD hS 2 10 0 0 rfl rfl rfl rfl rfl (by decide) (by decide) (by decide) (by decide) (by decide) (fun _ _ => rfl) (Nat.le_of_ble_eq_true rfl) (Nat.le_of_ble_eq_true rfl) dX0_become_25 (fun H locs hP hD hS => ?_)
  have hP : va_P G.1 vwCl [(nw, .inr (0, [.ref tt, .ref n1, .ref n2, .ref n3, .ref n4, .ref n5, .ref n6, .ref n7, .ref n8, .int 0, .int 0, .int 0])), (n2, .inl (G.2.1, 4, .inl (fun _ => 0))), (n3, .inl (G.2.1, 4, .inl (fun _ => 0))), (n4, .inl (G.2.1, 4, .inl (fun _ => 0))), (n5, .inl (G.2.1, 6, .inl (fun _ => 0))), (n6, .inl (G.2.1, 6, .inl (fun _ => 0))), (n7, .inl (G.2.1, 6, .inl (fun _ => 0))), (n8, .inl (G.2.1, 6, .inl (fun _ => 0))), (kp, .inr (0, [.ref tt, .ref k1, .ref k2, .ref k3, .ref k4, .ref k5, .ref k6, .ref k7, .ref k8, .int 0, .int 0, .int 0])), (k2, .inl (G.2.1, 4, .inl (va_cpy (fun _ => 0) (fun _ => 0) 0 0 4))), (k3, .inl (G.2.1, 4, .inl (va_cpy (fun _ => 0) (fun _ => 0) 0 0 4))), (k4, .inl (G.2.1, 4, .inl (fun _ => 0))), (k5, .inl (G.2.1, 6, .inl (fun _ => 0))), (k6, .inl (G.2.1, 6, .inl (fun _ => 0))), (k7, .inl (G.2.1, 6, .inl (fun _ => 0))), (k8, .inl (G.2.1, 6, .inl (fun _ => 0)))] H := hP
  have hD : va_D A [(nw, .inr (0, [.ref tt, .ref n1, .ref n2, .ref n3, .ref n4, .ref n5, .ref n6, .ref n7, .ref n8, .int 0, .int 0, .int 0])), (n2, .inl (G.2.1, 4, .inl (fun _ => 0))), (n3, .inl (G.2.1, 4, .inl (fun _ => 0))), (n4, .inl (G.2.1, 4, .inl (fun _ => 0))), (n5, .inl (G.2.1, 6, .inl (fun _ => 0))), (n6, .inl (G.2.1, 6, .inl (fun _ => 0))), (n7, .inl (G.2.1, 6, .inl (fun _ => 0))), (n8, .inl (G.2.1, 6, .inl (fun _ => 0))), (kp, .inr (0, [.ref tt, .ref k1, .ref k2, .ref k3, .ref k4, .ref k5, .ref k6, .ref k7, .ref k8, .int 0, .int 0, .int 0])), (k2, .inl (G.2.1, 4, .inl (va_cpy (fun _ => 0) (fun _ => 0) 0 0 4))), (k3, .inl (G.2.1, 4, .inl (va_cpy (fun _ => 0) (fun _ => 0) 0 0 4))), (k4, .inl (G.2.1, 4, .inl (fun _ => 0))), (k5, .inl (G.2.1, 6, .inl (fun _ => 0))), (k6, .inl (G.2.1, 6, .inl (fun _ => 0))), (k7, .inl (G.2.1, 6, .inl (fun _ => 0))), (k8, .inl (G.2.1, 6, .inl (fun _ => 0)))] := hD
  refine lv_aload_n hx hb dX0_become_28 rfl (lv_at hl 1 rfl) ?_
  refine va_get (D := G.1) (ci := 0) (v := .ref n4) (C := RX0) (T := TX0) (N := 12) hx hb hts hiX0 hown hK hP 0 rfl rfl 4 (by decide) kf23 (fun _ h9 => h9) rfl dX0_become_29 ?_
  refine lv_iconst (v := 0) hx hb dX0_become_32 (by decide) ?_
  refine lv_aload_n hx hb dX0_become_33 rfl (lv_at hl 0 rfl) ?_
  refine va_get (D := G.1) (ci := 0) (v := .ref k4) (C := RX0) (T := TX0) (N := 12) hx hb hts hiX0 hown hK hP 8 rfl rfl 4 (by decide) kf23 (fun _ h9 => h9) rfl dX0_become_34 ?_
  refine lv_iconst (v := 0) hx hb dX0_become_37 (by decide) ?_
  refine lv_iconst (v := 4) hx hb dX0_become_38 (by decide) ?_
  refine va_copyi (D := G.1) (ty := .int) hx hb (by rw [hml]; exact hl.1.symm) hown (hts (.methodLink RX0 42 arraycopyName) (by decide +kernel)) (hts (.native arraycopyName) (by decide +kernel)) (hts (.static arraycopyName) (by decide +kernel)) (hts (.initialized "java/lang/System") (by decide +kernel)) hK hP hD hS 3 11 0 0 rfl rfl rfl rfl rfl (by decide) (by decide) (by decide) (by decide) (by decide) (fun _ _ => rfl) (Nat.le_of_ble_eq_true rfl) (Nat.le_of_ble_eq_true rfl) dX0_become_39 (fun H locs hP hD hS => ?_)
  have hP : va_P G.1 vwCl [(nw, .inr (0, [.ref tt, .ref n1, .ref n2, .ref n3, .ref n4, .ref n5, .ref n6, .ref n7, .ref n8, .int 0, .int 0, .int 0])), (n2, .inl (G.2.1, 4, .inl (fun _ => 0))), (n3, .inl (G.2.1, 4, .inl (fun _ => 0))), (n4, .inl (G.2.1, 4, .inl (fun _ => 0))), (n5, .inl (G.2.1, 6, .inl (fun _ => 0))), (n6, .inl (G.2.1, 6, .inl (fun _ => 0))), (n7, .inl (G.2.1, 6, .inl (fun _ => 0))), (n8, .inl (G.2.1, 6, .inl (fun _ => 0))), (kp, .inr (0, [.ref tt, .ref k1, .ref k2, .ref k3, .ref k4, .ref k5, .ref k6, .ref k7, .ref k8, .int 0, .int 0, .int 0])), (k2, .inl (G.2.1, 4, .inl (va_cpy (fun _ => 0) (fun _ => 0) 0 0 4))), (k3, .inl (G.2.1, 4, .inl (va_cpy (fun _ => 0) (fun _ => 0) 0 0 4))), (k4, .inl (G.2.1, 4, .inl (va_cpy (fun _ => 0) (fun _ => 0) 0 0 4))), (k5, .inl (G.2.1, 6, .inl (fun _ => 0))), (k6, .inl (G.2.1, 6, .inl (fun _ => 0))), (k7, .inl (G.2.1, 6, .inl (fun _ => 0))), (k8, .inl (G.2.1, 6, .inl (fun _ => 0)))] H := hP
  have hD : va_D A [(nw, .inr (0, [.ref tt, .ref n1, .ref n2, .ref n3, .ref n4, .ref n5, .ref n6, .ref n7, .ref n8, .int 0, .int 0, .int 0])), (n2, .inl (G.2.1, 4, .inl (fun _ => 0))), (n3, .inl (G.2.1, 4, .inl (fun _ => 0))), (n4, .inl (G.2.1, 4, .inl (fun _ => 0))), (n5, .inl (G.2.1, 6, .inl (fun _ => 0))), (n6, .inl (G.2.1, 6, .inl (fun _ => 0))), (n7, .inl (G.2.1, 6, .inl (fun _ => 0))), (n8, .inl (G.2.1, 6, .inl (fun _ => 0))), (kp, .inr (0, [.ref tt, .ref k1, .ref k2, .ref k3, .ref k4, .ref k5, .ref k6, .ref k7, .ref k8, .int 0, .int 0, .int 0])), (k2, .inl (G.2.1, 4, .inl (va_cpy (fun _ => 0) (fun _ => 0) 0 0 4))), (k3, .inl (G.2.1, 4, .inl (va_cpy (fun _ => 0) (fun _ => 0) 0 0 4))), (k4, .inl (G.2.1, 4, .inl (va_cpy (fun _ => 0) (fun _ => 0) 0 0 4))), (k5, .inl (G.2.1, 6, .inl (fun _ => 0))), (k6, .inl (G.2.1, 6, .inl (fun _ => 0))), (k7, .inl (G.2.1, 6, .inl (fun _ => 0))), (k8, .inl (G.2.1, 6, .inl (fun _ => 0)))] := hD
  refine lv_aload_n hx hb dX0_become_42 rfl (lv_at hl 1 rfl) ?_
  refine va_get (D := G.1) (ci := 0) (v := .ref n5) (C := RX0) (T := TX0) (N := 12) hx hb hts hiX0 hown hK hP 0 rfl rfl 5 (by decide) kf26 (fun _ h9 => h9) rfl dX0_become_43 ?_
  refine lv_iconst (v := 0) hx hb dX0_become_46 (by decide) ?_
  refine lv_aload_n hx hb dX0_become_47 rfl (lv_at hl 0 rfl) ?_
  refine va_get (D := G.1) (ci := 0) (v := .ref k5) (C := RX0) (T := TX0) (N := 12) hx hb hts hiX0 hown hK hP 8 rfl rfl 5 (by decide) kf26 (fun _ h9 => h9) rfl dX0_become_48 ?_
  refine lv_iconst (v := 0) hx hb dX0_become_51 (by decide) ?_
  refine lv_bipush (v := 6) hx hb dX0_become_52 (by decide) ?_
  refine va_copyi (D := G.1) (ty := .int) hx hb (by rw [hml]; exact hl.1.symm) hown (hts (.methodLink RX0 42 arraycopyName) (by decide +kernel)) (hts (.native arraycopyName) (by decide +kernel)) (hts (.static arraycopyName) (by decide +kernel)) (hts (.initialized "java/lang/System") (by decide +kernel)) hK hP hD hS 4 12 0 0 rfl rfl rfl rfl rfl (by decide) (by decide) (by decide) (by decide) (by decide) (fun _ _ => rfl) (Nat.le_of_ble_eq_true rfl) (Nat.le_of_ble_eq_true rfl) dX0_become_54 (fun H locs hP hD hS => ?_)
  have hP : va_P G.1 vwCl [(nw, .inr (0, [.ref tt, .ref n1, .ref n2, .ref n3, .ref n4, .ref n5, .ref n6, .ref n7, .ref n8, .int 0, .int 0, .int 0])), (n2, .inl (G.2.1, 4, .inl (fun _ => 0))), (n3, .inl (G.2.1, 4, .inl (fun _ => 0))), (n4, .inl (G.2.1, 4, .inl (fun _ => 0))), (n5, .inl (G.2.1, 6, .inl (fun _ => 0))), (n6, .inl (G.2.1, 6, .inl (fun _ => 0))), (n7, .inl (G.2.1, 6, .inl (fun _ => 0))), (n8, .inl (G.2.1, 6, .inl (fun _ => 0))), (kp, .inr (0, [.ref tt, .ref k1, .ref k2, .ref k3, .ref k4, .ref k5, .ref k6, .ref k7, .ref k8, .int 0, .int 0, .int 0])), (k2, .inl (G.2.1, 4, .inl (va_cpy (fun _ => 0) (fun _ => 0) 0 0 4))), (k3, .inl (G.2.1, 4, .inl (va_cpy (fun _ => 0) (fun _ => 0) 0 0 4))), (k4, .inl (G.2.1, 4, .inl (va_cpy (fun _ => 0) (fun _ => 0) 0 0 4))), (k5, .inl (G.2.1, 6, .inl (va_cpy (fun _ => 0) (fun _ => 0) 0 0 6))), (k6, .inl (G.2.1, 6, .inl (fun _ => 0))), (k7, .inl (G.2.1, 6, .inl (fun _ => 0))), (k8, .inl (G.2.1, 6, .inl (fun _ => 0)))] H := hP
  have hD : va_D A [(nw, .inr (0, [.ref tt, .ref n1, .ref n2, .ref n3, .ref n4, .ref n5, .ref n6, .ref n7, .ref n8, .int 0, .int 0, .int 0])), (n2, .inl (G.2.1, 4, .inl (fun _ => 0))), (n3, .inl (G.2.1, 4, .inl (fun _ => 0))), (n4, .inl (G.2.1, 4, .inl (fun _ => 0))), (n5, .inl (G.2.1, 6, .inl (fun _ => 0))), (n6, .inl (G.2.1, 6, .inl (fun _ => 0))), (n7, .inl (G.2.1, 6, .inl (fun _ => 0))), (n8, .inl (G.2.1, 6, .inl (fun _ => 0))), (kp, .inr (0, [.ref tt, .ref k1, .ref k2, .ref k3, .ref k4, .ref k5, .ref k6, .ref k7, .ref k8, .int 0, .int 0, .int 0])), (k2, .inl (G.2.1, 4, .inl (va_cpy (fun _ => 0) (fun _ => 0) 0 0 4))), (k3, .inl (G.2.1, 4, .inl (va_cpy (fun _ => 0) (fun _ => 0) 0 0 4))), (k4, .inl (G.2.1, 4, .inl (va_cpy (fun _ => 0) (fun _ => 0) 0 0 4))), (k5, .inl (G.2.1, 6, .inl (va_cpy (fun _ => 0) (fun _ => 0) 0 0 6))), (k6, .inl (G.2.1, 6, .inl (fun _ => 0))), (k7, .inl (G.2.1, 6, .inl (fun _ => 0))), (k8, .inl (G.2.1, 6, .inl (fun _ => 0)))] := hD
  refine lv_aload_n hx hb dX0_become_57 rfl (lv_at hl 1 rfl) ?_
  refine va_get (D := G.1) (ci := 0) (v := .ref n6) (C := RX0) (T := TX0) (N := 12) hx hb hts hiX0 hown hK hP 0 rfl rfl 6 (by decide) kf29 (fun _ h9 => h9) rfl dX0_become_58 ?_
  refine lv_iconst (v := 0) hx hb dX0_become_61 (by decide) ?_
  refine lv_aload_n hx hb dX0_become_62 rfl (lv_at hl 0 rfl) ?_
  refine va_get (D := G.1) (ci := 0) (v := .ref k6) (C := RX0) (T := TX0) (N := 12) hx hb hts hiX0 hown hK hP 8 rfl rfl 6 (by decide) kf29 (fun _ h9 => h9) rfl dX0_become_63 ?_
  refine lv_iconst (v := 0) hx hb dX0_become_66 (by decide) ?_
  refine lv_bipush (v := 6) hx hb dX0_become_67 (by decide) ?_
  refine va_copyi (D := G.1) (ty := .int) hx hb (by rw [hml]; exact hl.1.symm) hown (hts (.methodLink RX0 42 arraycopyName) (by decide +kernel)) (hts (.native arraycopyName) (by decide +kernel)) (hts (.static arraycopyName) (by decide +kernel)) (hts (.initialized "java/lang/System") (by decide +kernel)) hK hP hD hS 5 13 0 0 rfl rfl rfl rfl rfl (by decide) (by decide) (by decide) (by decide) (by decide) (fun _ _ => rfl) (Nat.le_of_ble_eq_true rfl) (Nat.le_of_ble_eq_true rfl) dX0_become_69 (fun H locs hP hD hS => ?_)
  have hP : va_P G.1 vwCl [(nw, .inr (0, [.ref tt, .ref n1, .ref n2, .ref n3, .ref n4, .ref n5, .ref n6, .ref n7, .ref n8, .int 0, .int 0, .int 0])), (n2, .inl (G.2.1, 4, .inl (fun _ => 0))), (n3, .inl (G.2.1, 4, .inl (fun _ => 0))), (n4, .inl (G.2.1, 4, .inl (fun _ => 0))), (n5, .inl (G.2.1, 6, .inl (fun _ => 0))), (n6, .inl (G.2.1, 6, .inl (fun _ => 0))), (n7, .inl (G.2.1, 6, .inl (fun _ => 0))), (n8, .inl (G.2.1, 6, .inl (fun _ => 0))), (kp, .inr (0, [.ref tt, .ref k1, .ref k2, .ref k3, .ref k4, .ref k5, .ref k6, .ref k7, .ref k8, .int 0, .int 0, .int 0])), (k2, .inl (G.2.1, 4, .inl (va_cpy (fun _ => 0) (fun _ => 0) 0 0 4))), (k3, .inl (G.2.1, 4, .inl (va_cpy (fun _ => 0) (fun _ => 0) 0 0 4))), (k4, .inl (G.2.1, 4, .inl (va_cpy (fun _ => 0) (fun _ => 0) 0 0 4))), (k5, .inl (G.2.1, 6, .inl (va_cpy (fun _ => 0) (fun _ => 0) 0 0 6))), (k6, .inl (G.2.1, 6, .inl (va_cpy (fun _ => 0) (fun _ => 0) 0 0 6))), (k7, .inl (G.2.1, 6, .inl (fun _ => 0))), (k8, .inl (G.2.1, 6, .inl (fun _ => 0)))] H := hP
  have hD : va_D A [(nw, .inr (0, [.ref tt, .ref n1, .ref n2, .ref n3, .ref n4, .ref n5, .ref n6, .ref n7, .ref n8, .int 0, .int 0, .int 0])), (n2, .inl (G.2.1, 4, .inl (fun _ => 0))), (n3, .inl (G.2.1, 4, .inl (fun _ => 0))), (n4, .inl (G.2.1, 4, .inl (fun _ => 0))), (n5, .inl (G.2.1, 6, .inl (fun _ => 0))), (n6, .inl (G.2.1, 6, .inl (fun _ => 0))), (n7, .inl (G.2.1, 6, .inl (fun _ => 0))), (n8, .inl (G.2.1, 6, .inl (fun _ => 0))), (kp, .inr (0, [.ref tt, .ref k1, .ref k2, .ref k3, .ref k4, .ref k5, .ref k6, .ref k7, .ref k8, .int 0, .int 0, .int 0])), (k2, .inl (G.2.1, 4, .inl (va_cpy (fun _ => 0) (fun _ => 0) 0 0 4))), (k3, .inl (G.2.1, 4, .inl (va_cpy (fun _ => 0) (fun _ => 0) 0 0 4))), (k4, .inl (G.2.1, 4, .inl (va_cpy (fun _ => 0) (fun _ => 0) 0 0 4))), (k5, .inl (G.2.1, 6, .inl (va_cpy (fun _ => 0) (fun _ => 0) 0 0 6))), (k6, .inl (G.2.1, 6, .inl (va_cpy (fun _ => 0) (fun _ => 0) 0 0 6))), (k7, .inl (G.2.1, 6, .inl (fun _ => 0))), (k8, .inl (G.2.1, 6, .inl (fun _ => 0)))] := hD
  refine lv_aload_n hx hb dX0_become_72 rfl (lv_at hl 1 rfl) ?_
  refine va_get (D := G.1) (ci := 0) (v := .ref n7) (C := RX0) (T := TX0) (N := 12) hx hb hts hiX0 hown hK hP 0 rfl rfl 7 (by decide) kf32 (fun _ h9 => h9) rfl dX0_become_73 ?_
  refine lv_iconst (v := 0) hx hb dX0_become_76 (by decide) ?_
  refine lv_aload_n hx hb dX0_become_77 rfl (lv_at hl 0 rfl) ?_
  refine va_get (D := G.1) (ci := 0) (v := .ref k7) (C := RX0) (T := TX0) (N := 12) hx hb hts hiX0 hown hK hP 8 rfl rfl 7 (by decide) kf32 (fun _ h9 => h9) rfl dX0_become_78 ?_
  refine lv_iconst (v := 0) hx hb dX0_become_81 (by decide) ?_
  refine lv_bipush (v := 6) hx hb dX0_become_82 (by decide) ?_
  refine va_copyi (D := G.1) (ty := .int) hx hb (by rw [hml]; exact hl.1.symm) hown (hts (.methodLink RX0 42 arraycopyName) (by decide +kernel)) (hts (.native arraycopyName) (by decide +kernel)) (hts (.static arraycopyName) (by decide +kernel)) (hts (.initialized "java/lang/System") (by decide +kernel)) hK hP hD hS 6 14 0 0 rfl rfl rfl rfl rfl (by decide) (by decide) (by decide) (by decide) (by decide) (fun _ _ => rfl) (Nat.le_of_ble_eq_true rfl) (Nat.le_of_ble_eq_true rfl) dX0_become_84 (fun H locs hP hD hS => ?_)
  have hP : va_P G.1 vwCl [(nw, .inr (0, [.ref tt, .ref n1, .ref n2, .ref n3, .ref n4, .ref n5, .ref n6, .ref n7, .ref n8, .int 0, .int 0, .int 0])), (n2, .inl (G.2.1, 4, .inl (fun _ => 0))), (n3, .inl (G.2.1, 4, .inl (fun _ => 0))), (n4, .inl (G.2.1, 4, .inl (fun _ => 0))), (n5, .inl (G.2.1, 6, .inl (fun _ => 0))), (n6, .inl (G.2.1, 6, .inl (fun _ => 0))), (n7, .inl (G.2.1, 6, .inl (fun _ => 0))), (n8, .inl (G.2.1, 6, .inl (fun _ => 0))), (kp, .inr (0, [.ref tt, .ref k1, .ref k2, .ref k3, .ref k4, .ref k5, .ref k6, .ref k7, .ref k8, .int 0, .int 0, .int 0])), (k2, .inl (G.2.1, 4, .inl (va_cpy (fun _ => 0) (fun _ => 0) 0 0 4))), (k3, .inl (G.2.1, 4, .inl (va_cpy (fun _ => 0) (fun _ => 0) 0 0 4))), (k4, .inl (G.2.1, 4, .inl (va_cpy (fun _ => 0) (fun _ => 0) 0 0 4))), (k5, .inl (G.2.1, 6, .inl (va_cpy (fun _ => 0) (fun _ => 0) 0 0 6))), (k6, .inl (G.2.1, 6, .inl (va_cpy (fun _ => 0) (fun _ => 0) 0 0 6))), (k7, .inl (G.2.1, 6, .inl (va_cpy (fun _ => 0) (fun _ => 0) 0 0 6))), (k8, .inl (G.2.1, 6, .inl (fun _ => 0)))] H := hP
  have hD : va_D A [(nw, .inr (0, [.ref tt, .ref n1, .ref n2, .ref n3, .ref n4, .ref n5, .ref n6, .ref n7, .ref n8, .int 0, .int 0, .int 0])), (n2, .inl (G.2.1, 4, .inl (fun _ => 0))), (n3, .inl (G.2.1, 4, .inl (fun _ => 0))), (n4, .inl (G.2.1, 4, .inl (fun _ => 0))), (n5, .inl (G.2.1, 6, .inl (fun _ => 0))), (n6, .inl (G.2.1, 6, .inl (fun _ => 0))), (n7, .inl (G.2.1, 6, .inl (fun _ => 0))), (n8, .inl (G.2.1, 6, .inl (fun _ => 0))), (kp, .inr (0, [.ref tt, .ref k1, .ref k2, .ref k3, .ref k4, .ref k5, .ref k6, .ref k7, .ref k8, .int 0, .int 0, .int 0])), (k2, .inl (G.2.1, 4, .inl (va_cpy (fun _ => 0) (fun _ => 0) 0 0 4))), (k3, .inl (G.2.1, 4, .inl (va_cpy (fun _ => 0) (fun _ => 0) 0 0 4))), (k4, .inl (G.2.1, 4, .inl (va_cpy (fun _ => 0) (fun _ => 0) 0 0 4))), (k5, .inl (G.2.1, 6, .inl (va_cpy (fun _ => 0) (fun _ => 0) 0 0 6))), (k6, .inl (G.2.1, 6, .inl (va_cpy (fun _ => 0) (fun _ => 0) 0 0 6))), (k7, .inl (G.2.1, 6, .inl (va_cpy (fun _ => 0) (fun _ => 0) 0 0 6))), (k8, .inl (G.2.1, 6, .inl (fun _ => 0)))] := hD
  refine lv_aload_n hx hb dX0_become_87 rfl (lv_at hl 1 rfl) ?_
  refine va_get (D := G.1) (ci := 0) (v := .ref n8) (C := RX0) (T := TX0) (N := 12) hx hb hts hiX0 hown hK hP 0 rfl rfl 8 (by decide) kf35 (fun _ h9 => h9) rfl dX0_become_88 ?_
  refine lv_iconst (v := 0) hx hb dX0_become_91 (by decide) ?_
  refine lv_aload_n hx hb dX0_become_92 rfl (lv_at hl 0 rfl) ?_
  refine va_get (D := G.1) (ci := 0) (v := .ref k8) (C := RX0) (T := TX0) (N := 12) hx hb hts hiX0 hown hK hP 8 rfl rfl 8 (by decide) kf35 (fun _ h9 => h9) rfl dX0_become_93 ?_
  refine lv_iconst (v := 0) hx hb dX0_become_96 (by decide) ?_
  refine lv_bipush (v := 6) hx hb dX0_become_97 (by decide) ?_
  refine va_copyi (D := G.1) (ty := .int) hx hb (by rw [hml]; exact hl.1.symm) hown (hts (.methodLink RX0 42 arraycopyName) (by decide +kernel)) (hts (.native arraycopyName) (by decide +kernel)) (hts (.static arraycopyName) (by decide +kernel)) (hts (.initialized "java/lang/System") (by decide +kernel)) hK hP hD hS 7 15 0 0 rfl rfl rfl rfl rfl (by decide) (by decide) (by decide) (by decide) (by decide) (fun _ _ => rfl) (Nat.le_of_ble_eq_true rfl) (Nat.le_of_ble_eq_true rfl) dX0_become_99 (fun H locs hP hD hS => ?_)
  have hP : va_P G.1 vwCl [(nw, .inr (0, [.ref tt, .ref n1, .ref n2, .ref n3, .ref n4, .ref n5, .ref n6, .ref n7, .ref n8, .int 0, .int 0, .int 0])), (n2, .inl (G.2.1, 4, .inl (fun _ => 0))), (n3, .inl (G.2.1, 4, .inl (fun _ => 0))), (n4, .inl (G.2.1, 4, .inl (fun _ => 0))), (n5, .inl (G.2.1, 6, .inl (fun _ => 0))), (n6, .inl (G.2.1, 6, .inl (fun _ => 0))), (n7, .inl (G.2.1, 6, .inl (fun _ => 0))), (n8, .inl (G.2.1, 6, .inl (fun _ => 0))), (kp, .inr (0, [.ref tt, .ref k1, .ref k2, .ref k3, .ref k4, .ref k5, .ref k6, .ref k7, .ref k8, .int 0, .int 0, .int 0])), (k2, .inl (G.2.1, 4, .inl (va_cpy (fun _ => 0) (fun _ => 0) 0 0 4))), (k3, .inl (G.2.1, 4, .inl (va_cpy (fun _ => 0) (fun _ => 0) 0 0 4))), (k4, .inl (G.2.1, 4, .inl (va_cpy (fun _ => 0) (fun _ => 0) 0 0 4))), (k5, .inl (G.2.1, 6, .inl (va_cpy (fun _ => 0) (fun _ => 0) 0 0 6))), (k6, .inl (G.2.1, 6, .inl (va_cpy (fun _ => 0) (fun _ => 0) 0 0 6))), (k7, .inl (G.2.1, 6, .inl (va_cpy (fun _ => 0) (fun _ => 0) 0 0 6))), (k8, .inl (G.2.1, 6, .inl (va_cpy (fun _ => 0) (fun _ => 0) 0 0 6)))] H := hP
  have hD : va_D A [(nw, .inr (0, [.ref tt, .ref n1, .ref n2, .ref n3, .ref n4, .ref n5, .ref n6, .ref n7, .ref n8, .int 0, .int 0, .int 0])), (n2, .inl (G.2.1, 4, .inl (fun _ => 0))), (n3, .inl (G.2.1, 4, .inl (fun _ => 0))), (n4, .inl (G.2.1, 4, .inl (fun _ => 0))), (n5, .inl (G.2.1, 6, .inl (fun _ => 0))), (n6, .inl (G.2.1, 6, .inl (fun _ => 0))), (n7, .inl (G.2.1, 6, .inl (fun _ => 0))), (n8, .inl (G.2.1, 6, .inl (fun _ => 0))), (kp, .inr (0, [.ref tt, .ref k1, .ref k2, .ref k3, .ref k4, .ref k5, .ref k6, .ref k7, .ref k8, .int 0, .int 0, .int 0])), (k2, .inl (G.2.1, 4, .inl (va_cpy (fun _ => 0) (fun _ => 0) 0 0 4))), (k3, .inl (G.2.1, 4, .inl (va_cpy (fun _ => 0) (fun _ => 0) 0 0 4))), (k4, .inl (G.2.1, 4, .inl (va_cpy (fun _ => 0) (fun _ => 0) 0 0 4))), (k5, .inl (G.2.1, 6, .inl (va_cpy (fun _ => 0) (fun _ => 0) 0 0 6))), (k6, .inl (G.2.1, 6, .inl (va_cpy (fun _ => 0) (fun _ => 0) 0 0 6))), (k7, .inl (G.2.1, 6, .inl (va_cpy (fun _ => 0) (fun _ => 0) 0 0 6))), (k8, .inl (G.2.1, 6, .inl (va_cpy (fun _ => 0) (fun _ => 0) 0 0 6)))] := hD
  refine lv_aload_n hx hb dX0_become_102 rfl (lv_at hl 0 rfl) ?_
  refine lv_aload_n hx hb dX0_become_103 rfl (lv_at hl 1 rfl) ?_
  refine va_get (D := G.1) (ci := 0) (v := .int 0) (C := RX0) (T := TX0) (N := 12) hx hb hts hiX0 hown hK hP 0 rfl rfl 9 (by decide) kf48 (fun _ h9 => h9) rfl dX0_become_104 ?_
  refine va_put (D := G.1) (ci := 0) (v := .int 0) (ty := .int) (C := RX0) (T := TX0) (N := 12) hx hb hts hiX0 tyX0 tyX0_ok nmX0 hown hK hP hD hS 8 rfl rfl 9 (by decide) kf48 (fun _ h9 => h9) rfl (by decide +kernel) rfl rfl (Nat.le_of_ble_eq_true rfl) dX0_become_107 (fun H locs hP hD hS => ?_)
  have hP : va_P G.1 vwCl [(nw, .inr (0, [.ref tt, .ref n1, .ref n2, .ref n3, .ref n4, .ref n5, .ref n6, .ref n7, .ref n8, .int 0, .int 0, .int 0])), (n2, .inl (G.2.1, 4, .inl (fun _ => 0))), (n3, .inl (G.2.1, 4, .inl (fun _ => 0))), (n4, .inl (G.2.1, 4, .inl (fun _ => 0))), (n5, .inl (G.2.1, 6, .inl (fun _ => 0))), (n6, .inl (G.2.1, 6, .inl (fun _ => 0))), (n7, .inl (G.2.1, 6, .inl (fun _ => 0))), (n8, .inl (G.2.1, 6, .inl (fun _ => 0))), (kp, .inr (0, [.ref tt, .ref k1, .ref k2, .ref k3, .ref k4, .ref k5, .ref k6, .ref k7, .ref k8, .int 0, .int 0, .int 0])), (k2, .inl (G.2.1, 4, .inl (va_cpy (fun _ => 0) (fun _ => 0) 0 0 4))), (k3, .inl (G.2.1, 4, .inl (va_cpy (fun _ => 0) (fun _ => 0) 0 0 4))), (k4, .inl (G.2.1, 4, .inl (va_cpy (fun _ => 0) (fun _ => 0) 0 0 4))), (k5, .inl (G.2.1, 6, .inl (va_cpy (fun _ => 0) (fun _ => 0) 0 0 6))), (k6, .inl (G.2.1, 6, .inl (va_cpy (fun _ => 0) (fun _ => 0) 0 0 6))), (k7, .inl (G.2.1, 6, .inl (va_cpy (fun _ => 0) (fun _ => 0) 0 0 6))), (k8, .inl (G.2.1, 6, .inl (va_cpy (fun _ => 0) (fun _ => 0) 0 0 6)))] H := hP
  have hD : va_D A [(nw, .inr (0, [.ref tt, .ref n1, .ref n2, .ref n3, .ref n4, .ref n5, .ref n6, .ref n7, .ref n8, .int 0, .int 0, .int 0])), (n2, .inl (G.2.1, 4, .inl (fun _ => 0))), (n3, .inl (G.2.1, 4, .inl (fun _ => 0))), (n4, .inl (G.2.1, 4, .inl (fun _ => 0))), (n5, .inl (G.2.1, 6, .inl (fun _ => 0))), (n6, .inl (G.2.1, 6, .inl (fun _ => 0))), (n7, .inl (G.2.1, 6, .inl (fun _ => 0))), (n8, .inl (G.2.1, 6, .inl (fun _ => 0))), (kp, .inr (0, [.ref tt, .ref k1, .ref k2, .ref k3, .ref k4, .ref k5, .ref k6, .ref k7, .ref k8, .int 0, .int 0, .int 0])), (k2, .inl (G.2.1, 4, .inl (va_cpy (fun _ => 0) (fun _ => 0) 0 0 4))), (k3, .inl (G.2.1, 4, .inl (va_cpy (fun _ => 0) (fun _ => 0) 0 0 4))), (k4, .inl (G.2.1, 4, .inl (va_cpy (fun _ => 0) (fun _ => 0) 0 0 4))), (k5, .inl (G.2.1, 6, .inl (va_cpy (fun _ => 0) (fun _ => 0) 0 0 6))), (k6, .inl (G.2.1, 6, .inl (va_cpy (fun _ => 0) (fun _ => 0) 0 0 6))), (k7, .inl (G.2.1, 6, .inl (va_cpy (fun _ => 0) (fun _ => 0) 0 0 6))), (k8, .inl (G.2.1, 6, .inl (va_cpy (fun _ => 0) (fun _ => 0) 0 0 6)))] := hD
  refine lv_aload_n hx hb dX0_become_110 rfl (lv_at hl 0 rfl) ?_
  refine lv_aload_n hx hb dX0_become_111 rfl (lv_at hl 1 rfl) ?_
  refine va_get (D := G.1) (ci := 0) (v := .int 0) (C := RX0) (T := TX0) (N := 12) hx hb hts hiX0 hown hK hP 0 rfl rfl 10 (by decide) kf52 (fun _ h9 => h9) rfl dX0_become_112 ?_
  refine va_put (D := G.1) (ci := 0) (v := .int 0) (ty := .int) (C := RX0) (T := TX0) (N := 12) hx hb hts hiX0 tyX0 tyX0_ok nmX0 hown hK hP hD hS 8 rfl rfl 10 (by decide) kf52 (fun _ h9 => h9) rfl (by decide +kernel) rfl rfl (Nat.le_of_ble_eq_true rfl) dX0_become_115 (fun H locs hP hD hS => ?_)
  have hP : va_P G.1 vwCl [(nw, .inr (0, [.ref tt, .ref n1, .ref n2, .ref n3, .ref n4, .ref n5, .ref n6, .ref n7, .ref n8, .int 0, .int 0, .int 0])), (n2, .inl (G.2.1, 4, .inl (fun _ => 0))), (n3, .inl (G.2.1, 4, .inl (fun _ => 0))), (n4, .inl (G.2.1, 4, .inl (fun _ => 0))), (n5, .inl (G.2.1, 6, .inl (fun _ => 0))), (n6, .inl (G.2.1, 6, .inl (fun _ => 0))), (n7, .inl (G.2.1, 6, .inl (fun _ => 0))), (n8, .inl (G.2.1, 6, .inl (fun _ => 0))), (kp, .inr (0, [.ref tt, .ref k1, .ref k2, .ref k3, .ref k4, .ref k5, .ref k6, .ref k7, .ref k8, .int 0, .int 0, .int 0])), (k2, .inl (G.2.1, 4, .inl (va_cpy (fun _ => 0) (fun _ => 0) 0 0 4))), (k3, .inl (G.2.1, 4, .inl (va_cpy (fun _ => 0) (fun _ => 0) 0 0 4))), (k4, .inl (G.2.1, 4, .inl (va_cpy (fun _ => 0) (fun _ => 0) 0 0 4))), (k5, .inl (G.2.1, 6, .inl (va_cpy (fun _ => 0) (fun _ => 0) 0 0 6))), (k6, .inl (G.2.1, 6, .inl (va_cpy (fun _ => 0) (fun _ => 0) 0 0 6))), (k7, .inl (G.2.1, 6, .inl (va_cpy (fun _ => 0) (fun _ => 0) 0 0 6))), (k8, .inl (G.2.1, 6, .inl (va_cpy (fun _ => 0) (fun _ => 0) 0 0 6)))] H := hP
  have hD : va_D A [(nw, .inr (0, [.ref tt, .ref n1, .ref n2, .ref n3, .ref n4, .ref n5, .ref n6, .ref n7, .ref n8, .int 0, .int 0, .int 0])), (n2, .inl (G.2.1, 4, .inl (fun _ => 0))), (n3, .inl (G.2.1, 4, .inl (fun _ => 0))), (n4, .inl (G.2.1, 4, .inl (fun _ => 0))), (n5, .inl (G.2.1, 6, .inl (fun _ => 0))), (n6, .inl (G.2.1, 6, .inl (fun _ => 0))), (n7, .inl (G.2.1, 6, .inl (fun _ => 0))), (n8, .inl (G.2.1, 6, .inl (fun _ => 0))), (kp, .inr (0, [.ref tt, .ref k1, .ref k2, .ref k3, .ref k4, .ref k5, .ref k6, .ref k7, .ref k8, .int 0, .int 0, .int 0])), (k2, .inl (G.2.1, 4, .inl (va_cpy (fun _ => 0) (fun _ => 0) 0 0 4))), (k3, .inl (G.2.1, 4, .inl (va_cpy (fun _ => 0) (fun _ => 0) 0 0 4))), (k4, .inl (G.2.1, 4, .inl (va_cpy (fun _ => 0) (fun _ => 0) 0 0 4))), (k5, .inl (G.2.1, 6, .inl (va_cpy (fun _ => 0) (fun _ => 0) 0 0 6))), (k6, .inl (G.2.1, 6, .inl (va_cpy (fun _ => 0) (fun _ => 0) 0 0 6))), (k7, .inl (G.2.1, 6, .inl (va_cpy (fun _ => 0) (fun _ => 0) 0 0 6))), (k8, .inl (G.2.1, 6, .inl (va_cpy (fun _ => 0) (fun _ => 0) 0 0 6)))] := hD
  refine lv_aload_n hx hb dX0_become_118 rfl (lv_at hl 0 rfl) ?_
  refine lv_aload_n hx hb dX0_become_119 rfl (lv_at hl 1 rfl) ?_
  refine va_get (D := G.1) (ci := 0) (v := .int 0) (C := RX0) (T := TX0) (N := 12) hx hb hts hiX0 hown hK hP 0 rfl rfl 11 (by decide) kf55 (fun _ h9 => h9) rfl dX0_become_120 ?_
  refine va_put (D := G.1) (ci := 0) (v := .int 0) (ty := .int) (C := RX0) (T := TX0) (N := 12) hx hb hts hiX0 tyX0 tyX0_ok nmX0 hown hK hP hD hS 8 rfl rfl 11 (by decide) kf55 (fun _ h9 => h9) rfl (by decide +kernel) rfl rfl (Nat.le_of_ble_eq_true rfl) dX0_become_123 (fun H locs hP hD hS => ?_)
  have hP : va_P G.1 vwCl [(nw, .inr (0, [.ref tt, .ref n1, .ref n2, .ref n3, .ref n4, .ref n5, .ref n6, .ref n7, .ref n8, .int 0, .int 0, .int 0])), (n2, .inl (G.2.1, 4, .inl (fun _ => 0))), (n3, .inl (G.2.1, 4, .inl (fun _ => 0))), (n4, .inl (G.2.1, 4, .inl (fun _ => 0))), (n5, .inl (G.2.1, 6, .inl (fun _ => 0))), (n6, .inl (G.2.1, 6, .inl (fun _ => 0))), (n7, .inl (G.2.1, 6, .inl (fun _ => 0))), (n8, .inl (G.2.1, 6, .inl (fun _ => 0))), (kp, .inr (0, [.ref tt, .ref k1, .ref k2, .ref k3, .ref k4, .ref k5, .ref k6, .ref k7, .ref k8, .int 0, .int 0, .int 0])), (k2, .inl (G.2.1, 4, .inl (va_cpy (fun _ => 0) (fun _ => 0) 0 0 4))), (k3, .inl (G.2.1, 4, .inl (va_cpy (fun _ => 0) (fun _ => 0) 0 0 4))), (k4, .inl (G.2.1, 4, .inl (va_cpy (fun _ => 0) (fun _ => 0) 0 0 4))), (k5, .inl (G.2.1, 6, .inl (va_cpy (fun _ => 0) (fun _ => 0) 0 0 6))), (k6, .inl (G.2.1, 6, .inl (va_cpy (fun _ => 0) (fun _ => 0) 0 0 6))), (k7, .inl (G.2.1, 6, .inl (va_cpy (fun _ => 0) (fun _ => 0) 0 0 6))), (k8, .inl (G.2.1, 6, .inl (va_cpy (fun _ => 0) (fun _ => 0) 0 0 6)))] H := hP
  have hD : va_D A [(nw, .inr (0, [.ref tt, .ref n1, .ref n2, .ref n3, .ref n4, .ref n5, .ref n6, .ref n7, .ref n8, .int 0, .int 0, .int 0])), (n2, .inl (G.2.1, 4, .inl (fun _ => 0))), (n3, .inl (G.2.1, 4, .inl (fun _ => 0))), (n4, .inl (G.2.1, 4, .inl (fun _ => 0))), (n5, .inl (G.2.1, 6, .inl (fun _ => 0))), (n6, .inl (G.2.1, 6, .inl (fun _ => 0))), (n7, .inl (G.2.1, 6, .inl (fun _ => 0))), (n8, .inl (G.2.1, 6, .inl (fun _ => 0))), (kp, .inr (0, [.ref tt, .ref k1, .ref k2, .ref k3, .ref k4, .ref k5, .ref k6, .ref k7, .ref k8, .int 0, .int 0, .int 0])), (k2, .inl (G.2.1, 4, .inl (va_cpy (fun _ => 0) (fun _ => 0) 0 0 4))), (k3, .inl (G.2.1, 4, .inl (va_cpy (fun _ => 0) (fun _ => 0) 0 0 4))), (k4, .inl (G.2.1, 4, .inl (va_cpy (fun _ => 0) (fun _ => 0) 0 0 4))), (k5, .inl (G.2.1, 6, .inl (va_cpy (fun _ => 0) (fun _ => 0) 0 0 6))), (k6, .inl (G.2.1, 6, .inl (va_cpy (fun _ => 0) (fun _ => 0) 0 0 6))), (k7, .inl (G.2.1, 6, .inl (va_cpy (fun _ => 0) (fun _ => 0) 0 0 6))), (k8, .inl (G.2.1, 6, .inl (va_cpy (fun _ => 0) (fun _ => 0) 0 0 6)))] := hD
  have hP9 := hP.sub (ws' := [(nw, .inr (0, [.ref tt, .ref n1, .ref n2, .ref n3, .ref n4, .ref n5, .ref n6, .ref n7, .ref n8, .int 0, .int 0, .int 0])), (n2, .inl (G.2.1, 4, .inl (fun _ => 0))), (n3, .inl (G.2.1, 4, .inl (fun _ => 0))), (n4, .inl (G.2.1, 4, .inl (fun _ => 0))), (n5, .inl (G.2.1, 6, .inl (fun _ => 0))), (n6, .inl (G.2.1, 6, .inl (fun _ => 0))), (n7, .inl (G.2.1, 6, .inl (fun _ => 0))), (n8, .inl (G.2.1, 6, .inl (fun _ => 0))), (kp, .inr (0, [.ref tt, .ref k1, .ref k2, .ref k3, .ref k4, .ref k5, .ref k6, .ref k7, .ref k8, .int 0, .int 0, .int 0])), (k2, .inl (G.2.1, 4, .inl (va_cpy (fun _ => 0) (fun _ => 0) 0 0 4))), (k3, .inl (G.2.1, 4, .inl (va_cpy (fun _ => 0) (fun _ => 0) 0 0 4))), (k4, .inl (G.2.1, 4, .inl (va_cpy (fun _ => 0) (fun _ => 0) 0 0 4))), (k5, .inl (G.2.1, 6, .inl (va_cpy (fun _ => 0) (fun _ => 0) 0 0 6))), (k6, .inl (G.2.1, 6, .inl (va_cpy (fun _ => 0) (fun _ => 0) 0 0 6))), (k7, .inl (G.2.1, 6, .inl (va_cpy (fun _ => 0) (fun _ => 0) 0 0 6))), (k8, .inl (G.2.1, 6, .inl (va_cpy (fun _ => 0) (fun _ => 0) 0 0 6)))]) [0, 1, 2, 3, 4, 5, 6, 7, 8, 9, 10, 11, 12, 13, 14, 15] rfl
  have hD9 := hD.sub (ws' := [(nw, .inr (0, [.ref tt, .ref n1, .ref n2, .ref n3, .ref n4, .ref n5, .ref n6, .ref n7, .ref n8, .int 0, .int 0, .int 0])), (n2, .inl (G.2.1, 4, .inl (fun _ => 0))), (n3, .inl (G.2.1, 4, .inl (fun _ => 0))), (n4, .inl (G.2.1, 4, .inl (fun _ => 0))), (n5, .inl (G.2.1, 6, .inl (fun _ => 0))), (n6, .inl (G.2.1, 6, .inl (fun _ => 0))), (n7, .inl (G.2.1, 6, .inl (fun _ => 0))), (n8, .inl (G.2.1, 6, .inl (fun _ => 0))), (kp, .inr (0, [.ref tt, .ref k1, .ref k2, .ref k3, .ref k4, .ref k5, .ref k6, .ref k7, .ref k8, .int 0, .int 0, .int 0])), (k2, .inl (G.2.1, 4, .inl (va_cpy (fun _ => 0) (fun _ => 0) 0 0 4))), (k3, .inl (G.2.1, 4, .inl (va_cpy (fun _ => 0) (fun _ => 0) 0 0 4))), (k4, .inl (G.2.1, 4, .inl (va_cpy (fun _ => 0) (fun _ => 0) 0 0 4))), (k5, .inl (G.2.1, 6, .inl (va_cpy (fun _ => 0) (fun _ => 0) 0 0 6))), (k6, .inl (G.2.1, 6, .inl (va_cpy (fun _ => 0) (fun _ => 0) 0 0 6))), (k7, .inl (G.2.1, 6, .inl (va_cpy (fun _ => 0) (fun _ => 0) 0 0 6))), (k8, .inl (G.2.1, 6, .inl (va_cpy (fun _ => 0) (fun _ => 0) 0 0 6)))]) [0, 1, 2, 3, 4, 5, 6, 7, 8, 9, 10, 11, 12, 13, 14, 15] (by decide) rfl
  have hpost : (fun (u : (Nat → Int32) × (Nat → Int32) × (Nat → Int32) × (Nat → Int32) × (Nat → Int32) × (Nat → Int32) × (Nat → Int32)) => match u with | (y2, y3, y4, y5, y6, y7, y8) => True) (va_cpy (fun _ => 0) (fun _ => 0) 0 0 4, va_cpy (fun _ => 0) (fun _ => 0) 0 0 4, va_cpy (fun _ => 0) (fun _ => 0) 0 0 4, va_cpy (fun _ => 0) (fun _ => 0) 0 0 6, va_cpy (fun _ => 0) (fun _ => 0) 0 0 6, va_cpy (fun _ => 0) (fun _ => 0) 0 0 6, va_cpy (fun _ => 0) (fun _ => 0) 0 0 6) := by first | trivial | rfl | decide | simp
  exact W.vret hx hb hr (fun t ht hW => ⟨⟨(va_cpy (fun _ => 0) (fun _ => 0) 0 0 4, va_cpy (fun _ => 0) (fun _ => 0) 0 0 4, va_cpy (fun _ => 0) (fun _ => 0) 0 0 4, va_cpy (fun _ => 0) (fun _ => 0) 0 0 6, va_cpy (fun _ => 0) (fun _ => 0) 0 0 6, va_cpy (fun _ => 0) (fun _ => 0) 0 0 6, va_cpy (fun _ => 0) (fun _ => 0) 0 0 6), rfl, hpost, by rw [ht]; exact hP9, va_K.moved hW.alike hK, hD9⟩, hS.F ht⟩) hS.2.2 dX0_become_126
abbrev q_X2_isSheet (G : gG) (E : gS) (sh qn qo ql : Nat) (v0 : Int32) (A : Nat → Prop) : Array Value → State → Outcome → State → Prop := va_Qi (fun (r : Int32) (u : Unit) => match u with | _ => r = bz (decide (0 ≤ v0 ∧ v0 ≤ 3))) (fun (u : Unit) t => match u with | _ => va_P G.1 vwCl [(sh, .inr (2, [.ref qn, .ref qo, .ref ql]))] t.heap ∧ gK G t ∧ va_D A [(sh, .inr (2, [.ref qn, .ref qo, .ref ql]))]) A
set_option maxHeartbeats 4000000 in
set_option maxRecDepth 100000 in
theorem c_X2_isSheet (l : Launch) (G : gG) (E : gS) (sh qn qo ql : Nat) (v0 : Int32) (sz : Nat) : Met l yX2_isSheet wsX2_isSheet ({ frames := 1, cells := 0, slots := 0, locals := 21 }) (gPreE G E [.ref sh, .int v0] [(sh, .inr (2, [.ref qn, .ref qo, .ref ql]))] sz) (q_X2_isSheet G E sh qn qo ql v0 (va_A [(sh, .inr (2, [.ref qn, .ref qo, .ref ql]))] sz)) 0 0 (va_A [(sh, .inr (2, [.ref qn, .ref qo, .ref ql]))] sz) := by
  refine Met.ofW (cc := cX2_isSheet) (maxL := 2) (ret := (some .boolean)) (by decide) rfl ?_
  intro p e s m args below meth c s₁ B hml hv
  obtain ⟨rfl, hsz, hP, hK, hD0, hE⟩ := hv
  have hx := B.exec
  have hb := B.bytes
  have hr := B.returns
  have hts := atoms_spec (ws := wsX2_isSheet) B.pre
  have hown : s.vm.findClass RX2 = some m.cls := findClass_of_methodNamed B.named
  have hlocks := B.notSynchronized
  subst hsz
  have hD := hD0.self (sz := s.heap.size)
  generalize hAe : va_A [(sh, .inr (2, [.ref qn, .ref qo, .ref ql]))] s.heap.size = A at hD hE ⊢
  have hA : ∀ q : Nat, s.heap.size ≤ q → A q := fun q h => by rw [← hAe]; exact Or.inr h
  have hS : va_S A s.heap s.heap [] := va_S.rf
  have hP : va_P G.1 vwCl [(sh, .inr (2, [.ref qn, .ref qo, .ref ql]))] s.heap := hP
  have hD : va_D A [(sh, .inr (2, [.ref qn, .ref qo, .ref ql]))] := hD
  have hl := lv_entry ([.ref sh, .int v0]) (n := 2) (Nat.le_of_ble_eq_true rfl)
  rw [lg_entry_eq]
  generalize (lg_sl ([.ref sh, .int v0]) ++ List.replicate (2 - (lg_sl ([.ref sh, .int v0])).length) Slot.unset).toArray = ls at hl ⊢
  have hl : lv_has ls 2 [(0, .ref sh), (1, .int v0)] := hl
  refine lv_iload_n hx hb dX2_isSheet_0 rfl (lv_at hl 1 rfl) ?_
  refine lv_iconst (v := 3) hx hb dX2_isSheet_1 (by decide) ?_
  have hPc : va_P G.1 vwCl [] s.heap := hP.sub [] rfl
  have hDc : va_D A [] := hD.sub [] (by decide) rfl
  have hFc := va_free (wc := []) hD hS hA [] rfl
  refine va_calli (va_runSN (As := [.int v0, .int 3]) (rest := []) ⟨hx, hb, hml, hown, hts⟩ (c_X5_within l G v0 3 s.heap.size) ⟨va_cnB 2 hts gX2_isSheet_X5_within_n29 rfl rfl rfl hE.2.2.2.2.1 (hts (.initialized RX5) (by decide +kernel)) (by decide +kernel) ⟨Nat.le_of_ble_eq_true rfl, Nat.le_of_ble_eq_true rfl⟩, hts (.static yX5_within) (by decide +kernel), trivial⟩ ⟨gPre_blind, fun U hU hW => gPre_of hU hW hK hPc hDc⟩ rfl rfl hl.1 rfl (lv_room (Nat.le_of_ble_eq_true rfl)) dX2_isSheet_2 ⟨Nat.le_of_ble_eq_true rfl, Nat.le_of_ble_eq_true rfl⟩) hS (fun q _ h => hFc q h) hFc (fun r_1 u t H locs ht hvm w_2 hB hz1 hk1 hS => ?_)
  obtain ⟨hP1, hK1, hD1⟩ := hB
  rw [ht] at hP1
  have hP1 : va_P G.1 vwCl [] H := hP1
  have hD1 : va_D (va_A [] s.heap.size) [] := hD1
  have w_2 : r_1 = bz (decide (0 ≤ v0 ∧ v0 ≤ 3)) := w_2
  obtain ⟨hP, hD⟩ := va_join (wr := [(sh, .inr (2, [.ref qn, .ref qo, .ref ql]))]) (w1 := []) hP hD [] [0] rfl rfl (by decide) (by decide) hk1 hFc hP1 hD1
  have hP : va_P G.1 vwCl [(sh, .inr (2, [.ref qn, .ref qo, .ref ql]))] H := hP
  have hD : va_D A [(sh, .inr (2, [.ref qn, .ref qo, .ref ql]))] := hD
  have hq := w_2
  have hP9 := hP.sub (ws' := [(sh, .inr (2, [.ref qn, .ref qo, .ref ql]))]) [0] rfl
  have hD9 := hD.sub (ws' := [(sh, .inr (2, [.ref qn, .ref qo, .ref ql]))]) [0] (by decide) rfl
  have hpost : (fun (r : Int32) (u : Unit) => match u with | _ => r = bz (decide (0 ≤ v0 ∧ v0 ≤ 3))) r_1 () := w_2
  exact W.zret (v := r_1) hx hb hr (by rw [w_2]; exact bz_nar _) (fun t ht hW => ⟨⟨r_1, (), rfl, hpost, by rw [ht]; exact hP9, va_K.moved hW.alike hK, hD9⟩, hS.F ht⟩) hS.2.2 dX2_isSheet_5
abbrev q_X2_become_0 (G : gG) (sh qn qo ql r0 r1 r2 r3 : Nat) (v0 : Int32) (v1 : Int32) (v2 : Int32) (fn : Nat → Option Nat) (A : Nat → Prop) : Array Value → State → Outcome → State → Prop := va_Qv (fun (u : (Nat → Int32) × (Nat → Int32) × (Nat → Int32) × (Nat → Int32) × (Nat → Int32) × (Nat → Int32)) => match u with | (y0, y1, y2, y3, yo, yl) => True) (fun (u : (Nat → Int32) × (Nat → Int32) × (Nat → Int32) × (Nat → Int32) × (Nat → Int32) × (Nat → Int32)) t => match u with | (y0, y1, y2, y3, yo, yl) => va_P G.1 vwCl [(sh, .inr (2, [.ref qn, .ref qo, .ref ql])), (qn, .inl (G.2.2.2, 4, .inr (.inr (.inr (.inr fn))))), (r0, .inl (G.2.1, 40, .inl y0)), (r1, .inl (G.2.1, 40, .inl y1)), (r2, .inl (G.2.1, 40, .inl y2)), (r3, .inl (G.2.1, 40, .inl y3)), (qo, .inl (G.2.1, 4, .inl yo)), (ql, .inl (G.2.1, 4, .inl yl))] t.heap ∧ gK G t ∧ va_D A [(sh, .inr (2, [.ref qn, .ref qo, .ref ql])), (qn, .inl (G.2.2.2, 4, .inr (.inr (.inr (.inr fn))))), (r0, .inl (G.2.1, 40, .inl y0)), (r1, .inl (G.2.1, 40, .inl y1)), (r2, .inl (G.2.1, 40, .inl y2)), (r3, .inl (G.2.1, 40, .inl y3)), (qo, .inl (G.2.1, 4, .inl yo)), (ql, .inl (G.2.1, 4, .inl yl))]) A
set_option maxHeartbeats 4000000 in
set_option maxRecDepth 100000 in
theorem c_X2_become_0 (l : Launch) (G : gG) (sh qn qo ql r0 r1 r2 r3 : Nat) (v0 : Int32) (v1 : Int32) (v2 : Int32) (fn : Nat → Option Nat) (sz : Nat) (hs : 0 ≤ v0 ∧ v0 ≤ 3) (hr0 : fn 0 = some r0) (hr1 : fn 1 = some r1) (hr2 : fn 2 = some r2) (hr3 : fn 3 = some r3) : Met l yX2_become wsX2_become ({ frames := 1, cells := 0, slots := 0, locals := 23 }) (gPre G [.ref sh, .int v0, .int v1, .int v2] [(sh, .inr (2, [.ref qn, .ref qo, .ref ql])), (qn, .inl (G.2.2.2, 4, .inr (.inr (.inr (.inr fn))))), (r0, .inl (G.2.1, 40, .inl (fun _ => 0))), (r1, .inl (G.2.1, 40, .inl (fun _ => 0))), (r2, .inl (G.2.1, 40, .inl (fun _ => 0))), (r3, .inl (G.2.1, 40, .inl (fun _ => 0))), (qo, .inl (G.2.1, 4, .inl (gFl (-1) (fun _ => 0) 4))), (ql, .inl (G.2.1, 4, .inl (fun _ => 0)))] sz) (q_X2_become_0 G sh qn qo ql r0 r1 r2 r3 v0 v1 v2 fn (va_A [(sh, .inr (2, [.ref qn, .ref qo, .ref ql])), (qn, .inl (G.2.2.2, 4, .inr (.inr (.inr (.inr fn))))), (r0, .inl (G.2.1, 40, .inl (fun _ => 0))), (r1, .inl (G.2.1, 40, .inl (fun _ => 0))), (r2, .inl (G.2.1, 40, .inl (fun _ => 0))), (r3, .inl (G.2.1, 40, .inl (fun _ => 0))), (qo, .inl (G.2.1, 4, .inl (gFl (-1) (fun _ => 0) 4))), (ql, .inl (G.2.1, 4, .inl (fun _ => 0)))] sz)) 0 0 (va_A [(sh, .inr (2, [.ref qn, .ref qo, .ref ql])), (qn, .inl (G.2.2.2, 4, .inr (.inr (.inr (.inr fn))))), (r0, .inl (G.2.1, 40, .inl (fun _ => 0))), (r1, .inl (G.2.1, 40, .inl (fun _ => 0))), (r2, .inl (G.2.1, 40, .inl (fun _ => 0))), (r3, .inl (G.2.1, 40, .inl (fun _ => 0))), (qo, .inl (G.2.1, 4, .inl (gFl (-1) (fun _ => 0) 4))), (ql, .inl (G.2.1, 4, .inl (fun _ => 0)))] sz) := by
  refine Met.ofW (cc := cX2_become) (maxL := 4) (ret := none) (by decide) rfl ?_
  intro p e s m args below meth c s₁ B hml hv
  obtain ⟨rfl, hsz, hP, hK, hD0⟩ := hv
  have hx := B.exec
  have hb := B.bytes
  have hr := B.returns
  have hts := atoms_spec (ws := wsX2_become) B.pre
  have hown : s.vm.findClass RX2 = some m.cls := findClass_of_methodNamed B.named
  have hlocks := B.notSynchronized
  subst hsz
  have hD := hD0.self (sz := s.heap.size)
  generalize hAe : va_A [(sh, .inr (2, [.ref qn, .ref qo, .ref ql])), (qn, .inl (G.2.2.2, 4, .inr (.inr (.inr (.inr fn))))), (r0, .inl (G.2.1, 40, .inl (fun _ => 0))), (r1, .inl (G.2.1, 40, .inl (fun _ => 0))), (r2, .inl (G.2.1, 40, .inl (fun _ => 0))), (r3, .inl (G.2.1, 40, .inl (fun _ => 0))), (qo, .inl (G.2.1, 4, .inl (gFl (-1) (fun _ => 0) 4))), (ql, .inl (G.2.1, 4, .inl (fun _ => 0)))] s.heap.size = A at hD ⊢
  have hA : ∀ q : Nat, s.heap.size ≤ q → A q := fun q h => by rw [← hAe]; exact Or.inr h
  have hS : va_S A s.heap s.heap [] := va_S.rf
  have hP : va_P G.1 vwCl [(sh, .inr (2, [.ref qn, .ref qo, .ref ql])), (qn, .inl (G.2.2.2, 4, .inr (.inr (.inr (.inr fn))))), (r0, .inl (G.2.1, 40, .inl (fun _ => 0))), (r1, .inl (G.2.1, 40, .inl (fun _ => 0))), (r2, .inl (G.2.1, 40, .inl (fun _ => 0))), (r3, .inl (G.2.1, 40, .inl (fun _ => 0))), (qo, .inl (G.2.1, 4, .inl (gFl (-1) (fun _ => 0) 4))), (ql, .inl (G.2.1, 4, .inl (fun _ => 0)))] s.heap := hP
  have hD : va_D A [(sh, .inr (2, [.ref qn, .ref qo, .ref ql])), (qn, .inl (G.2.2.2, 4, .inr (.inr (.inr (.inr fn))))), (r0, .inl (G.2.1, 40, .inl (fun _ => 0))), (r1, .inl (G.2.1, 40, .inl (fun _ => 0))), (r2, .inl (G.2.1, 40, .inl (fun _ => 0))), (r3, .inl (G.2.1, 40, .inl (fun _ => 0))), (qo, .inl (G.2.1, 4, .inl (gFl (-1) (fun _ => 0) 4))), (ql, .inl (G.2.1, 4, .inl (fun _ => 0)))] := hD
  have hl := lv_entry ([.ref sh, .int v0, .int v1, .int v2]) (n := 4) (Nat.le_of_ble_eq_true rfl)
  rw [lg_entry_eq]
  generalize (lg_sl ([.ref sh, .int v0, .int v1, .int v2]) ++ List.replicate (4 - (lg_sl ([.ref sh, .int v0, .int v1, .int v2])).length) Slot.unset).toArray = ls at hl ⊢
  have hl : lv_has ls 4 [(0, .ref sh), (1, .int v0), (2, .int v1), (3, .int v2)] := hl
  have kf16 := hts (.fieldLink RX2 16 "PebbleInShoe$Sheets" "sorts" "[I") (by decide +kernel)
  have hiX2 := (by decide +kernel : ∀ w ∈ wsX20, w ∈ wsX2_become)
  have kf20 := hts (.fieldLink RX2 20 "PebbleInShoe$Sheets" "lengths" "[I") (by decide +kernel)
  have kf11 := hts (.fieldLink RX2 11 "PebbleInShoe$Sheets" "numbers" "[[I") (by decide +kernel)
  refine lv_aload_n hx hb dX2_become_0 rfl (lv_at hl 0 rfl) ?_
  refine va_get (D := G.1) (ci := 2) (v := .ref qo) (C := RX2) (T := TX2) (N := 3) hx hb hts hiX2 hown hK hP 0 rfl rfl 1 (by decide) kf16 (fun _ h9 => h9) rfl dX2_become_1 ?_
  refine lv_iload_n hx hb dX2_become_4 rfl (lv_at hl 1 rfl) ?_
  refine lv_iload_n hx hb dX2_become_5 rfl (lv_at hl 2 rfl) ?_
  refine va_iast (D := G.1) hx hb hK hP hD hS 6 0 rfl rfl (i := v0) (x := v1) (g_in3 hs) dX2_become_6 (fun H locs hP hD hS => ?_)
  have hP : va_P G.1 vwCl [(sh, .inr (2, [.ref qn, .ref qo, .ref ql])), (qn, .inl (G.2.2.2, 4, .inr (.inr (.inr (.inr fn))))), (r0, .inl (G.2.1, 40, .inl (fun _ => 0))), (r1, .inl (G.2.1, 40, .inl (fun _ => 0))), (r2, .inl (G.2.1, 40, .inl (fun _ => 0))), (r3, .inl (G.2.1, 40, .inl (fun _ => 0))), (qo, .inl (G.2.1, 4, .inl (upd (gFl (-1) (fun _ => 0) 4) v0.toNatClampNeg v1))), (ql, .inl (G.2.1, 4, .inl (fun _ => 0)))] H := hP
  have hD : va_D A [(sh, .inr (2, [.ref qn, .ref qo, .ref ql])), (qn, .inl (G.2.2.2, 4, .inr (.inr (.inr (.inr fn))))), (r0, .inl (G.2.1, 40, .inl (fun _ => 0))), (r1, .inl (G.2.1, 40, .inl (fun _ => 0))), (r2, .inl (G.2.1, 40, .inl (fun _ => 0))), (r3, .inl (G.2.1, 40, .inl (fun _ => 0))), (qo, .inl (G.2.1, 4, .inl (upd (gFl (-1) (fun _ => 0) 4) v0.toNatClampNeg v1))), (ql, .inl (G.2.1, 4, .inl (fun _ => 0)))] := hD
  refine lv_aload_n hx hb dX2_become_7 rfl (lv_at hl 0 rfl) ?_
  refine va_get (D := G.1) (ci := 2) (v := .ref ql) (C := RX2) (T := TX2) (N := 3) hx hb hts hiX2 hown hK hP 0 rfl rfl 2 (by decide) kf20 (fun _ h9 => h9) rfl dX2_become_8 ?_
  refine lv_iload_n hx hb dX2_become_11 rfl (lv_at hl 1 rfl) ?_
  refine lv_iload_n hx hb dX2_become_12 rfl (lv_at hl 3 rfl) ?_
  refine va_iast (D := G.1) hx hb hK hP hD hS 7 0 rfl rfl (i := v0) (x := v2) (g_in3 hs) dX2_become_13 (fun H locs hP hD hS => ?_)
  have hP : va_P G.1 vwCl [(sh, .inr (2, [.ref qn, .ref qo, .ref ql])), (qn, .inl (G.2.2.2, 4, .inr (.inr (.inr (.inr fn))))), (r0, .inl (G.2.1, 40, .inl (fun _ => 0))), (r1, .inl (G.2.1, 40, .inl (fun _ => 0))), (r2, .inl (G.2.1, 40, .inl (fun _ => 0))), (r3, .inl (G.2.1, 40, .inl (fun _ => 0))), (qo, .inl (G.2.1, 4, .inl (upd (gFl (-1) (fun _ => 0) 4) v0.toNatClampNeg v1))), (ql, .inl (G.2.1, 4, .inl (upd (fun _ => 0) v0.toNatClampNeg v2)))] H := hP
  have hD : va_D A [(sh, .inr (2, [.ref qn, .ref qo, .ref ql])), (qn, .inl (G.2.2.2, 4, .inr (.inr (.inr (.inr fn))))), (r0, .inl (G.2.1, 40, .inl (fun _ => 0))), (r1, .inl (G.2.1, 40, .inl (fun _ => 0))), (r2, .inl (G.2.1, 40, .inl (fun _ => 0))), (r3, .inl (G.2.1, 40, .inl (fun _ => 0))), (qo, .inl (G.2.1, 4, .inl (upd (gFl (-1) (fun _ => 0) 4) v0.toNatClampNeg v1))), (ql, .inl (G.2.1, 4, .inl (upd (fun _ => 0) v0.toNatClampNeg v2)))] := hD
  refine lv_aload_n hx hb dX2_become_14 rfl (lv_at hl 0 rfl) ?_
  refine va_get (D := G.1) (ci := 2) (v := .ref qn) (C := RX2) (T := TX2) (N := 3) hx hb hts hiX2 hown hK hP 0 rfl rfl 0 (by decide) kf11 (fun _ h9 => h9) rfl dX2_become_15 ?_
  refine lv_iload_n hx hb dX2_become_18 rfl (lv_at hl 1 rfl) ?_
  rcases g03 hs with hq | hq | hq | hq
  · skip
    refine g_aald (x := r0) hx hb hK hP 1 2 rfl rfl (i := v0) (g_in3 hs) (by rw [hq]; exact hr0) dX2_become_19 ?_
    refine lv_iconst (v := 0) hx hb dX2_become_20 (by decide) ?_
    have hPc : va_P G.1 vwCl [(r0, .inl (G.2.1, 40, .inl (fun _ => 0)))] H := hP.sub [2] rfl
    have hDc : va_D A [(r0, .inl (G.2.1, 40, .inl (fun _ => 0)))] := hD.sub [2] (by decide) rfl
    have hFc := va_free (wc := [(r0, .inl (G.2.1, 40, .inl (fun _ => 0)))]) hD hS hA [2] rfl
    refine va_callv (va_runS (As := [.ref r0, .int 0]) (rest := []) ⟨hx, hb, hml, hown, hts⟩ (c_J7_fill_53178 l G r0 40 (fun _ => 0) 0 H.size (by decide)) (va_cwS 2 hts gX2_become_J7_fill_53178 rfl rfl rfl (by decide +kernel) ⟨Nat.le_of_ble_eq_true rfl, Nat.le_of_ble_eq_true rfl⟩) ⟨gPre_blind, fun U hU hW => gPre_of hU hW hK hPc hDc⟩ rfl rfl hl.1 rfl (lv_room (Nat.le_of_ble_eq_true rfl)) dX2_become_21 ⟨Nat.le_of_ble_eq_true rfl, Nat.le_of_ble_eq_true rfl⟩) hS (fun q _ h => hFc q h) hFc (fun u t H locs ht hvm w_2 hB hz1 hk1 hS => ?_)
    obtain ⟨hP1, hK1, hD1⟩ := hB
    rw [ht] at hP1
    have hP1 : va_P G.1 vwCl [(r0, .inl (G.2.1, 40, .inl (gFl 0 (fun _ => 0) 40)))] H := hP1
    have hD1 : va_D (va_A [(r0, .inl (G.2.1, 40, .inl (fun _ => 0)))] _) [(r0, .inl (G.2.1, 40, .inl (gFl 0 (fun _ => 0) 40)))] := hD1
    obtain ⟨hP, hD⟩ := va_join (wr := [(sh, .inr (2, [.ref qn, .ref qo, .ref ql])), (qn, .inl (G.2.2.2, 4, .inr (.inr (.inr (.inr fn))))), (r1, .inl (G.2.1, 40, .inl (fun _ => 0))), (r2, .inl (G.2.1, 40, .inl (fun _ => 0))), (r3, .inl (G.2.1, 40, .inl (fun _ => 0))), (qo, .inl (G.2.1, 4, .inl (upd (gFl (-1) (fun _ => 0) 4) v0.toNatClampNeg v1))), (ql, .inl (G.2.1, 4, .inl (upd (fun _ => 0) v0.toNatClampNeg v2)))]) (w1 := [(r0, .inl (G.2.1, 40, .inl (gFl 0 (fun _ => 0) 40)))]) hP hD [2] [0, 1, 3, 4, 5, 6, 7] rfl rfl (by decide) (by decide) hk1 hFc hP1 hD1
    have hP : va_P G.1 vwCl [(sh, .inr (2, [.ref qn, .ref qo, .ref ql])), (qn, .inl (G.2.2.2, 4, .inr (.inr (.inr (.inr fn))))), (r1, .inl (G.2.1, 40, .inl (fun _ => 0))), (r2, .inl (G.2.1, 40, .inl (fun _ => 0))), (r3, .inl (G.2.1, 40, .inl (fun _ => 0))), (qo, .inl (G.2.1, 4, .inl (upd (gFl (-1) (fun _ => 0) 4) v0.toNatClampNeg v1))), (ql, .inl (G.2.1, 4, .inl (upd (fun _ => 0) v0.toNatClampNeg v2))), (r0, .inl (G.2.1, 40, .inl (gFl 0 (fun _ => 0) 40)))] H := hP
    have hD : va_D A [(sh, .inr (2, [.ref qn, .ref qo, .ref ql])), (qn, .inl (G.2.2.2, 4, .inr (.inr (.inr (.inr fn))))), (r1, .inl (G.2.1, 40, .inl (fun _ => 0))), (r2, .inl (G.2.1, 40, .inl (fun _ => 0))), (r3, .inl (G.2.1, 40, .inl (fun _ => 0))), (qo, .inl (G.2.1, 4, .inl (upd (gFl (-1) (fun _ => 0) 4) v0.toNatClampNeg v1))), (ql, .inl (G.2.1, 4, .inl (upd (fun _ => 0) v0.toNatClampNeg v2))), (r0, .inl (G.2.1, 40, .inl (gFl 0 (fun _ => 0) 40)))] := hD
    have hP9 := hP.sub (ws' := [(sh, .inr (2, [.ref qn, .ref qo, .ref ql])), (qn, .inl (G.2.2.2, 4, .inr (.inr (.inr (.inr fn))))), (r0, .inl (G.2.1, 40, .inl (gFl 0 (fun _ => 0) 40))), (r1, .inl (G.2.1, 40, .inl (fun _ => 0))), (r2, .inl (G.2.1, 40, .inl (fun _ => 0))), (r3, .inl (G.2.1, 40, .inl (fun _ => 0))), (qo, .inl (G.2.1, 4, .inl (upd (gFl (-1) (fun _ => 0) 4) v0.toNatClampNeg v1))), (ql, .inl (G.2.1, 4, .inl (upd (fun _ => 0) v0.toNatClampNeg v2)))]) [0, 1, 7, 2, 3, 4, 5, 6] rfl
    have hD9 := hD.sub (ws' := [(sh, .inr (2, [.ref qn, .ref qo, .ref ql])), (qn, .inl (G.2.2.2, 4, .inr (.inr (.inr (.inr fn))))), (r0, .inl (G.2.1, 40, .inl (gFl 0 (fun _ => 0) 40))), (r1, .inl (G.2.1, 40, .inl (fun _ => 0))), (r2, .inl (G.2.1, 40, .inl (fun _ => 0))), (r3, .inl (G.2.1, 40, .inl (fun _ => 0))), (qo, .inl (G.2.1, 4, .inl (upd (gFl (-1) (fun _ => 0) 4) v0.toNatClampNeg v1))), (ql, .inl (G.2.1, 4, .inl (upd (fun _ => 0) v0.toNatClampNeg v2)))]) [0, 1, 7, 2, 3, 4, 5, 6] (by decide) rfl
    have hpost : (fun (u : (Nat → Int32) × (Nat → Int32) × (Nat → Int32) × (Nat → Int32) × (Nat → Int32) × (Nat → Int32)) => match u with | (y0, y1, y2, y3, yo, yl) => True) (gFl 0 (fun _ => 0) 40, fun _ => 0, fun _ => 0, fun _ => 0, upd (gFl (-1) (fun _ => 0) 4) v0.toNatClampNeg v1, upd (fun _ => 0) v0.toNatClampNeg v2) := by first | trivial | rfl | decide | simp
    exact W.vret hx hb hr (fun t ht hW => ⟨⟨(gFl 0 (fun _ => 0) 40, fun _ => 0, fun _ => 0, fun _ => 0, upd (gFl (-1) (fun _ => 0) 4) v0.toNatClampNeg v1, upd (fun _ => 0) v0.toNatClampNeg v2), rfl, hpost, by rw [ht]; exact hP9, va_K.moved hW.alike hK, hD9⟩, hS.F ht⟩) hS.2.2 dX2_become_24
  · skip
    refine g_aald (x := r1) hx hb hK hP 1 2 rfl rfl (i := v0) (g_in3 hs) (by rw [hq]; exact hr1) dX2_become_19 ?_
    refine lv_iconst (v := 0) hx hb dX2_become_20 (by decide) ?_
    have hPc : va_P G.1 vwCl [(r1, .inl (G.2.1, 40, .inl (fun _ => 0)))] H := hP.sub [3] rfl
    have hDc : va_D A [(r1, .inl (G.2.1, 40, .inl (fun _ => 0)))] := hD.sub [3] (by decide) rfl
    have hFc := va_free (wc := [(r1, .inl (G.2.1, 40, .inl (fun _ => 0)))]) hD hS hA [3] rfl
    refine va_callv (va_runS (As := [.ref r1, .int 0]) (rest := []) ⟨hx, hb, hml, hown, hts⟩ (c_J7_fill_53178 l G r1 40 (fun _ => 0) 0 H.size (by decide)) (va_cwS 2 hts gX2_become_J7_fill_53178 rfl rfl rfl (by decide +kernel) ⟨Nat.le_of_ble_eq_true rfl, Nat.le_of_ble_eq_true rfl⟩) ⟨gPre_blind, fun U hU hW => gPre_of hU hW hK hPc hDc⟩ rfl rfl hl.1 rfl (lv_room (Nat.le_of_ble_eq_true rfl)) dX2_become_21 ⟨Nat.le_of_ble_eq_true rfl, Nat.le_of_ble_eq_true rfl⟩) hS (fun q _ h => hFc q h) hFc (fun u t H locs ht hvm w_4 hB hz1 hk1 hS => ?_)
    obtain ⟨hP1, hK1, hD1⟩ := hB
    rw [ht] at hP1
    have hP1 : va_P G.1 vwCl [(r1, .inl (G.2.1, 40, .inl (gFl 0 (fun _ => 0) 40)))] H := hP1
    have hD1 : va_D (va_A [(r1, .inl (G.2.1, 40, .inl (fun _ => 0)))] _) [(r1, .inl (G.2.1, 40, .inl (gFl 0 (fun _ => 0) 40)))] := hD1
    obtain ⟨hP, hD⟩ := va_join (wr := [(sh, .inr (2, [.ref qn, .ref qo, .ref ql])), (qn, .inl (G.2.2.2, 4, .inr (.inr (.inr (.inr fn))))), (r0, .inl (G.2.1, 40, .inl (fun _ => 0))), (r2, .inl (G.2.1, 40, .inl (fun _ => 0))), (r3, .inl (G.2.1, 40, .inl (fun _ => 0))), (qo, .inl (G.2.1, 4, .inl (upd (gFl (-1) (fun _ => 0) 4) v0.toNatClampNeg v1))), (ql, .inl (G.2.1, 4, .inl (upd (fun _ => 0) v0.toNatClampNeg v2)))]) (w1 := [(r1, .inl (G.2.1, 40, .inl (gFl 0 (fun _ => 0) 40)))]) hP hD [3] [0, 1, 2, 4, 5, 6, 7] rfl rfl (by decide) (by decide) hk1 hFc hP1 hD1
    have hP : va_P G.1 vwCl [(sh, .inr (2, [.ref qn, .ref qo, .ref ql])), (qn, .inl (G.2.2.2, 4, .inr (.inr (.inr (.inr fn))))), (r0, .inl (G.2.1, 40, .inl (fun _ => 0))), (r2, .inl (G.2.1, 40, .inl (fun _ => 0))), (r3, .inl (G.2.1, 40, .inl (fun _ => 0))), (qo, .inl (G.2.1, 4, .inl (upd (gFl (-1) (fun _ => 0) 4) v0.toNatClampNeg v1))), (ql, .inl (G.2.1, 4, .inl (upd (fun _ => 0) v0.toNatClampNeg v2))), (r1, .inl (G.2.1, 40, .inl (gFl 0 (fun _ => 0) 40)))] H := hP
    have hD : va_D A [(sh, .inr (2, [.ref qn, .ref qo, .ref ql])), (qn, .inl (G.2.2.2, 4, .inr (.inr (.inr (.inr fn))))), (r0, .inl (G.2.1, 40, .inl (fun _ => 0))), (r2, .inl (G.2.1, 40, .inl (fun _ => 0))), (r3, .inl (G.2.1, 40, .inl (fun _ => 0))), (qo, .inl (G.2.1, 4, .inl (upd (gFl (-1) (fun _ => 0) 4) v0.toNatClampNeg v1))), (ql, .inl (G.2.1, 4, .inl (upd (fun _ => 0) v0.toNatClampNeg v2))), (r1, .inl (G.2.1, 40, .inl (gFl 0 (fun _ => 0) 40)))] := hD
    have hP9 := hP.sub (ws' := [(sh, .inr (2, [.ref qn, .ref qo, .ref ql])), (qn, .inl (G.2.2.2, 4, .inr (.inr (.inr (.inr fn))))), (r0, .inl (G.2.1, 40, .inl (fun _ => 0))), (r1, .inl (G.2.1, 40, .inl (gFl 0 (fun _ => 0) 40))), (r2, .inl (G.2.1, 40, .inl (fun _ => 0))), (r3, .inl (G.2.1, 40, .inl (fun _ => 0))), (qo, .inl (G.2.1, 4, .inl (upd (gFl (-1) (fun _ => 0) 4) v0.toNatClampNeg v1))), (ql, .inl (G.2.1, 4, .inl (upd (fun _ => 0) v0.toNatClampNeg v2)))]) [0, 1, 2, 7, 3, 4, 5, 6] rfl
    have hD9 := hD.sub (ws' := [(sh, .inr (2, [.ref qn, .ref qo, .ref ql])), (qn, .inl (G.2.2.2, 4, .inr (.inr (.inr (.inr fn))))), (r0, .inl (G.2.1, 40, .inl (fun _ => 0))), (r1, .inl (G.2.1, 40, .inl (gFl 0 (fun _ => 0) 40))), (r2, .inl (G.2.1, 40, .inl (fun _ => 0))), (r3, .inl (G.2.1, 40, .inl (fun _ => 0))), (qo, .inl (G.2.1, 4, .inl (upd (gFl (-1) (fun _ => 0) 4) v0.toNatClampNeg v1))), (ql, .inl (G.2.1, 4, .inl (upd (fun _ => 0) v0.toNatClampNeg v2)))]) [0, 1, 2, 7, 3, 4, 5, 6] (by decide) rfl
    have hpost : (fun (u : (Nat → Int32) × (Nat → Int32) × (Nat → Int32) × (Nat → Int32) × (Nat → Int32) × (Nat → Int32)) => match u with | (y0, y1, y2, y3, yo, yl) => True) (fun _ => 0, gFl 0 (fun _ => 0) 40, fun _ => 0, fun _ => 0, upd (gFl (-1) (fun _ => 0) 4) v0.toNatClampNeg v1, upd (fun _ => 0) v0.toNatClampNeg v2) := by first | trivial | rfl | decide | simp
    exact W.vret hx hb hr (fun t ht hW => ⟨⟨(fun _ => 0, gFl 0 (fun _ => 0) 40, fun _ => 0, fun _ => 0, upd (gFl (-1) (fun _ => 0) 4) v0.toNatClampNeg v1, upd (fun _ => 0) v0.toNatClampNeg v2), rfl, hpost, by rw [ht]; exact hP9, va_K.moved hW.alike hK, hD9⟩, hS.F ht⟩) hS.2.2 dX2_become_24
  · skip
    refine g_aald (x := r2) hx hb hK hP 1 2 rfl rfl (i := v0) (g_in3 hs) (by rw [hq]; exact hr2) dX2_become_19 ?_
    refine lv_iconst (v := 0) hx hb dX2_become_20 (by decide) ?_
    have hPc : va_P G.1 vwCl [(r2, .inl (G.2.1, 40, .inl (fun _ => 0)))] H := hP.sub [4] rfl
    have hDc : va_D A [(r2, .inl (G.2.1, 40, .inl (fun _ => 0)))] := hD.sub [4] (by decide) rfl
    have hFc := va_free (wc := [(r2, .inl (G.2.1, 40, .inl (fun _ => 0)))]) hD hS hA [4] rfl
    refine va_callv (va_runS (As := [.ref r2, .int 0]) (rest := []) ⟨hx, hb, hml, hown, hts⟩ (c_J7_fill_53178 l G r2 40 (fun _ => 0) 0 H.size (by decide)) (va_cwS 2 hts gX2_become_J7_fill_53178 rfl rfl rfl (by decide +kernel) ⟨Nat.le_of_ble_eq_true rfl, Nat.le_of_ble_eq_true rfl⟩) ⟨gPre_blind, fun U hU hW => gPre_of hU hW hK hPc hDc⟩ rfl rfl hl.1 rfl (lv_room (Nat.le_of_ble_eq_true rfl)) dX2_become_21 ⟨Nat.le_of_ble_eq_true rfl, Nat.le_of_ble_eq_true rfl⟩) hS (fun q _ h => hFc q h) hFc (fun u t H locs ht hvm w_6 hB hz1 hk1 hS => ?_)
    obtain ⟨hP1, hK1, hD1⟩ := hB
    rw [ht] at hP1
    have hP1 : va_P G.1 vwCl [(r2, .inl (G.2.1, 40, .inl (gFl 0 (fun _ => 0) 40)))] H := hP1
    have hD1 : va_D (va_A [(r2, .inl (G.2.1, 40, .inl (fun _ => 0)))] _) [(r2, .inl (G.2.1, 40, .inl (gFl 0 (fun _ => 0) 40)))] := hD1
    obtain ⟨hP, hD⟩ := va_join (wr := [(sh, .inr (2, [.ref qn, .ref qo, .ref ql])), (qn, .inl (G.2.2.2, 4, .inr (.inr (.inr (.inr fn))))), (r0, .inl (G.2.1, 40, .inl (fun _ => 0))), (r1, .inl (G.2.1, 40, .inl (fun _ => 0))), (r3, .inl (G.2.1, 40, .inl (fun _ => 0))), (qo, .inl (G.2.1, 4, .inl (upd (gFl (-1) (fun _ => 0) 4) v0.toNatClampNeg v1))), (ql, .inl (G.2.1, 4, .inl (upd (fun _ => 0) v0.toNatClampNeg v2)))]) (w1 := [(r2, .inl (G.2.1, 40, .inl (gFl 0 (fun _ => 0) 40)))]) hP hD [4] [0, 1, 2, 3, 5, 6, 7] rfl rfl (by decide) (by decide) hk1 hFc hP1 hD1
    have hP : va_P G.1 vwCl [(sh, .inr (2, [.ref qn, .ref qo, .ref ql])), (qn, .inl (G.2.2.2, 4, .inr (.inr (.inr (.inr fn))))), (r0, .inl (G.2.1, 40, .inl (fun _ => 0))), (r1, .inl (G.2.1, 40, .inl (fun _ => 0))), (r3, .inl (G.2.1, 40, .inl (fun _ => 0))), (qo, .inl (G.2.1, 4, .inl (upd (gFl (-1) (fun _ => 0) 4) v0.toNatClampNeg v1))), (ql, .inl (G.2.1, 4, .inl (upd (fun _ => 0) v0.toNatClampNeg v2))), (r2, .inl (G.2.1, 40, .inl (gFl 0 (fun _ => 0) 40)))] H := hP
    have hD : va_D A [(sh, .inr (2, [.ref qn, .ref qo, .ref ql])), (qn, .inl (G.2.2.2, 4, .inr (.inr (.inr (.inr fn))))), (r0, .inl (G.2.1, 40, .inl (fun _ => 0))), (r1, .inl (G.2.1, 40, .inl (fun _ => 0))), (r3, .inl (G.2.1, 40, .inl (fun _ => 0))), (qo, .inl (G.2.1, 4, .inl (upd (gFl (-1) (fun _ => 0) 4) v0.toNatClampNeg v1))), (ql, .inl (G.2.1, 4, .inl (upd (fun _ => 0) v0.toNatClampNeg v2))), (r2, .inl (G.2.1, 40, .inl (gFl 0 (fun _ => 0) 40)))] := hD
    have hP9 := hP.sub (ws' := [(sh, .inr (2, [.ref qn, .ref qo, .ref ql])), (qn, .inl (G.2.2.2, 4, .inr (.inr (.inr (.inr fn))))), (r0, .inl (G.2.1, 40, .inl (fun _ => 0))), (r1, .inl (G.2.1, 40, .inl (fun _ => 0))), (r2, .inl (G.2.1, 40, .inl (gFl 0 (fun _ => 0) 40))), (r3, .inl (G.2.1, 40, .inl (fun _ => 0))), (qo, .inl (G.2.1, 4, .inl (upd (gFl (-1) (fun _ => 0) 4) v0.toNatClampNeg v1))), (ql, .inl (G.2.1, 4, .inl (upd (fun _ => 0) v0.toNatClampNeg v2)))]) [0, 1, 2, 3, 7, 4, 5, 6] rfl
    have hD9 := hD.sub (ws' := [(sh, .inr (2, [.ref qn, .ref qo, .ref ql])), (qn, .inl (G.2.2.2, 4, .inr (.inr (.inr (.inr fn))))), (r0, .inl (G.2.1, 40, .inl (fun _ => 0))), (r1, .inl (G.2.1, 40, .inl (fun _ => 0))), (r2, .inl (G.2.1, 40, .inl (gFl 0 (fun _ => 0) 40))), (r3, .inl (G.2.1, 40, .inl (fun _ => 0))), (qo, .inl (G.2.1, 4, .inl (upd (gFl (-1) (fun _ => 0) 4) v0.toNatClampNeg v1))), (ql, .inl (G.2.1, 4, .inl (upd (fun _ => 0) v0.toNatClampNeg v2)))]) [0, 1, 2, 3, 7, 4, 5, 6] (by decide) rfl
    have hpost : (fun (u : (Nat → Int32) × (Nat → Int32) × (Nat → Int32) × (Nat → Int32) × (Nat → Int32) × (Nat → Int32)) => match u with | (y0, y1, y2, y3, yo, yl) => True) (fun _ => 0, fun _ => 0, gFl 0 (fun _ => 0) 40, fun _ => 0, upd (gFl (-1) (fun _ => 0) 4) v0.toNatClampNeg v1, upd (fun _ => 0) v0.toNatClampNeg v2) := by first | trivial | rfl | decide | simp
    exact W.vret hx hb hr (fun t ht hW => ⟨⟨(fun _ => 0, fun _ => 0, gFl 0 (fun _ => 0) 40, fun _ => 0, upd (gFl (-1) (fun _ => 0) 4) v0.toNatClampNeg v1, upd (fun _ => 0) v0.toNatClampNeg v2), rfl, hpost, by rw [ht]; exact hP9, va_K.moved hW.alike hK, hD9⟩, hS.F ht⟩) hS.2.2 dX2_become_24
  · skip
    refine g_aald (x := r3) hx hb hK hP 1 2 rfl rfl (i := v0) (g_in3 hs) (by rw [hq]; exact hr3) dX2_become_19 ?_
    refine lv_iconst (v := 0) hx hb dX2_become_20 (by decide) ?_
    have hPc : va_P G.1 vwCl [(r3, .inl (G.2.1, 40, .inl (fun _ => 0)))] H := hP.sub [5] rfl
    have hDc : va_D A [(r3, .inl (G.2.1, 40, .inl (fun _ => 0)))] := hD.sub [5] (by decide) rfl
    have hFc := va_free (wc := [(r3, .inl (G.2.1, 40, .inl (fun _ => 0)))]) hD hS hA [5] rfl
    refine va_callv (va_runS (As := [.ref r3, .int 0]) (rest := []) ⟨hx, hb, hml, hown, hts⟩ (c_J7_fill_53178 l G r3 40 (fun _ => 0) 0 H.size (by decide)) (va_cwS 2 hts gX2_become_J7_fill_53178 rfl rfl rfl (by decide +kernel) ⟨Nat.le_of_ble_eq_true rfl, Nat.le_of_ble_eq_true rfl⟩) ⟨gPre_blind, fun U hU hW => gPre_of hU hW hK hPc hDc⟩ rfl rfl hl.1 rfl (lv_room (Nat.le_of_ble_eq_true rfl)) dX2_become_21 ⟨Nat.le_of_ble_eq_true rfl, Nat.le_of_ble_eq_true rfl⟩) hS (fun q _ h => hFc q h) hFc (fun u t H locs ht hvm w_8 hB hz1 hk1 hS => ?_)
    obtain ⟨hP1, hK1, hD1⟩ := hB
    rw [ht] at hP1
    have hP1 : va_P G.1 vwCl [(r3, .inl (G.2.1, 40, .inl (gFl 0 (fun _ => 0) 40)))] H := hP1
    have hD1 : va_D (va_A [(r3, .inl (G.2.1, 40, .inl (fun _ => 0)))] _) [(r3, .inl (G.2.1, 40, .inl (gFl 0 (fun _ => 0) 40)))] := hD1
    obtain ⟨hP, hD⟩ := va_join (wr := [(sh, .inr (2, [.ref qn, .ref qo, .ref ql])), (qn, .inl (G.2.2.2, 4, .inr (.inr (.inr (.inr fn))))), (r0, .inl (G.2.1, 40, .inl (fun _ => 0))), (r1, .inl (G.2.1, 40, .inl (fun _ => 0))), (r2, .inl (G.2.1, 40, .inl (fun _ => 0))), (qo, .inl (G.2.1, 4, .inl (upd (gFl (-1) (fun _ => 0) 4) v0.toNatClampNeg v1))), (ql, .inl (G.2.1, 4, .inl (upd (fun _ => 0) v0.toNatClampNeg v2)))]) (w1 := [(r3, .inl (G.2.1, 40, .inl (gFl 0 (fun _ => 0) 40)))]) hP hD [5] [0, 1, 2, 3, 4, 6, 7] rfl rfl (by decide) (by decide) hk1 hFc hP1 hD1
    have hP : va_P G.1 vwCl [(sh, .inr (2, [.ref qn, .ref qo, .ref ql])), (qn, .inl (G.2.2.2, 4, .inr (.inr (.inr (.inr fn))))), (r0, .inl (G.2.1, 40, .inl (fun _ => 0))), (r1, .inl (G.2.1, 40, .inl (fun _ => 0))), (r2, .inl (G.2.1, 40, .inl (fun _ => 0))), (qo, .inl (G.2.1, 4, .inl (upd (gFl (-1) (fun _ => 0) 4) v0.toNatClampNeg v1))), (ql, .inl (G.2.1, 4, .inl (upd (fun _ => 0) v0.toNatClampNeg v2))), (r3, .inl (G.2.1, 40, .inl (gFl 0 (fun _ => 0) 40)))] H := hP
    have hD : va_D A [(sh, .inr (2, [.ref qn, .ref qo, .ref ql])), (qn, .inl (G.2.2.2, 4, .inr (.inr (.inr (.inr fn))))), (r0, .inl (G.2.1, 40, .inl (fun _ => 0))), (r1, .inl (G.2.1, 40, .inl (fun _ => 0))), (r2, .inl (G.2.1, 40, .inl (fun _ => 0))), (qo, .inl (G.2.1, 4, .inl (upd (gFl (-1) (fun _ => 0) 4) v0.toNatClampNeg v1))), (ql, .inl (G.2.1, 4, .inl (upd (fun _ => 0) v0.toNatClampNeg v2))), (r3, .inl (G.2.1, 40, .inl (gFl 0 (fun _ => 0) 40)))] := hD
    have hP9 := hP.sub (ws' := [(sh, .inr (2, [.ref qn, .ref qo, .ref ql])), (qn, .inl (G.2.2.2, 4, .inr (.inr (.inr (.inr fn))))), (r0, .inl (G.2.1, 40, .inl (fun _ => 0))), (r1, .inl (G.2.1, 40, .inl (fun _ => 0))), (r2, .inl (G.2.1, 40, .inl (fun _ => 0))), (r3, .inl (G.2.1, 40, .inl (gFl 0 (fun _ => 0) 40))), (qo, .inl (G.2.1, 4, .inl (upd (gFl (-1) (fun _ => 0) 4) v0.toNatClampNeg v1))), (ql, .inl (G.2.1, 4, .inl (upd (fun _ => 0) v0.toNatClampNeg v2)))]) [0, 1, 2, 3, 4, 7, 5, 6] rfl
    have hD9 := hD.sub (ws' := [(sh, .inr (2, [.ref qn, .ref qo, .ref ql])), (qn, .inl (G.2.2.2, 4, .inr (.inr (.inr (.inr fn))))), (r0, .inl (G.2.1, 40, .inl (fun _ => 0))), (r1, .inl (G.2.1, 40, .inl (fun _ => 0))), (r2, .inl (G.2.1, 40, .inl (fun _ => 0))), (r3, .inl (G.2.1, 40, .inl (gFl 0 (fun _ => 0) 40))), (qo, .inl (G.2.1, 4, .inl (upd (gFl (-1) (fun _ => 0) 4) v0.toNatClampNeg v1))), (ql, .inl (G.2.1, 4, .inl (upd (fun _ => 0) v0.toNatClampNeg v2)))]) [0, 1, 2, 3, 4, 7, 5, 6] (by decide) rfl
    have hpost : (fun (u : (Nat → Int32) × (Nat → Int32) × (Nat → Int32) × (Nat → Int32) × (Nat → Int32) × (Nat → Int32)) => match u with | (y0, y1, y2, y3, yo, yl) => True) (fun _ => 0, fun _ => 0, fun _ => 0, gFl 0 (fun _ => 0) 40, upd (gFl (-1) (fun _ => 0) 4) v0.toNatClampNeg v1, upd (fun _ => 0) v0.toNatClampNeg v2) := by first | trivial | rfl | decide | simp
    exact W.vret hx hb hr (fun t ht hW => ⟨⟨(fun _ => 0, fun _ => 0, fun _ => 0, gFl 0 (fun _ => 0) 40, upd (gFl (-1) (fun _ => 0) 4) v0.toNatClampNeg v1, upd (fun _ => 0) v0.toNatClampNeg v2), rfl, hpost, by rw [ht]; exact hP9, va_K.moved hW.alike hK, hD9⟩, hS.F ht⟩) hS.2.2 dX2_become_24
theorem pp_X5_refusalOfSheet_0_1 (v0 : Int32) (p_4 : 0 ≤ v0 ∧ v0 ≤ 3) : ((-11) : Int32) = (if 0 ≤ v0 ∧ v0 ≤ 3 then -11 else -2) := by
  first
    | rfl
    | exact bz_pos (by (first | omega | (simp only [Int32.lt_iff_toInt_lt, Int32.le_iff_toInt_le, ← Int32.toInt_inj, Int32.reduceToInt] at * <;> omega)))
    | exact bz_neg (by (first | omega | (simp only [Int32.lt_iff_toInt_lt, Int32.le_iff_toInt_le, ← Int32.toInt_inj, Int32.reduceToInt] at * <;> omega)))
    | ((repeat' split) <;> first | rfl | assumption | (symm; assumption) | (exfalso; (first | omega | (simp only [Int32.lt_iff_toInt_lt, Int32.le_iff_toInt_le, ← Int32.toInt_inj, Int32.reduceToInt] at * <;> omega))))
theorem pp_X5_refusalOfSheet_0_2 (v0 : Int32) (n_5 : ¬ (0 ≤ v0 ∧ v0 ≤ 3)) : ((-2) : Int32) = (if 0 ≤ v0 ∧ v0 ≤ 3 then -11 else -2) := by
  first
    | rfl
    | exact bz_pos (by (first | omega | (simp only [Int32.lt_iff_toInt_lt, Int32.le_iff_toInt_le, ← Int32.toInt_inj, Int32.reduceToInt] at * <;> omega)))
    | exact bz_neg (by (first | omega | (simp only [Int32.lt_iff_toInt_lt, Int32.le_iff_toInt_le, ← Int32.toInt_inj, Int32.reduceToInt] at * <;> omega)))
    | ((repeat' split) <;> first | rfl | assumption | (symm; assumption) | (exfalso; (first | omega | (simp only [Int32.lt_iff_toInt_lt, Int32.le_iff_toInt_le, ← Int32.toInt_inj, Int32.reduceToInt] at * <;> omega))))
abbrev q_X5_refusalOfSheet_0 (G : gG) (E : gS) (h0 tt rd nw th kp sh tu qn qo ql : Nat) (v0 : Int32) (A : Nat → Prop) : Array Value → State → Outcome → State → Prop := va_Qi (fun (r : Int32) (u : Unit) => match u with | _ => r = (if 0 ≤ v0 ∧ v0 ≤ 3 then -11 else -2)) (fun (u : Unit) t => match u with | _ => va_P G.1 vwCl [(h0, .inr (5, [.ref tt, .ref rd, .ref nw, .ref th, .ref kp, .ref sh, .ref tu, .int 0])), (sh, .inr (2, [.ref qn, .ref qo, .ref ql])), (qo, .inl (G.2.1, 4, .inl (gFl (-1) (fun _ => 0) 4)))] t.heap ∧ gK G t ∧ va_D A [(h0, .inr (5, [.ref tt, .ref rd, .ref nw, .ref th, .ref kp, .ref sh, .ref tu, .int 0])), (sh, .inr (2, [.ref qn, .ref qo, .ref ql])), (qo, .inl (G.2.1, 4, .inl (gFl (-1) (fun _ => 0) 4)))]) A
set_option maxHeartbeats 4000000 in
set_option maxRecDepth 100000 in
theorem c_X5_refusalOfSheet_0 (l : Launch) (G : gG) (E : gS) (h0 tt rd nw th kp sh tu qn qo ql : Nat) (v0 : Int32) (sz : Nat) : Met l yX5_refusalOfSheet wsX5_refusalOfSheet ({ frames := 2, cells := 0, slots := 0, locals := 42 }) (gPreE G E [.ref h0, .int v0] [(h0, .inr (5, [.ref tt, .ref rd, .ref nw, .ref th, .ref kp, .ref sh, .ref tu, .int 0])), (sh, .inr (2, [.ref qn, .ref qo, .ref ql])), (qo, .inl (G.2.1, 4, .inl (gFl (-1) (fun _ => 0) 4)))] sz) (q_X5_refusalOfSheet_0 G E h0 tt rd nw th kp sh tu qn qo ql v0 (va_A [(h0, .inr (5, [.ref tt, .ref rd, .ref nw, .ref th, .ref kp, .ref sh, .ref tu, .int 0])), (sh, .inr (2, [.ref qn, .ref qo, .ref ql])), (qo, .inl (G.2.1, 4, .inl (gFl (-1) (fun _ => 0) 4)))] sz)) 0 0 (va_A [(h0, .inr (5, [.ref tt, .ref rd, .ref nw, .ref th, .ref kp, .ref sh, .ref tu, .int 0])), (sh, .inr (2, [.ref qn, .ref qo, .ref ql])), (qo, .inl (G.2.1, 4, .inl (gFl (-1) (fun _ => 0) 4)))] sz) := by
  refine Met.ofW (cc := cX5_refusalOfSheet) (maxL := 5) (ret := (some .int)) (by decide) rfl ?_
  intro p e s m args below meth c s₁ B hml hv
  obtain ⟨rfl, hsz, hP, hK, hD0, hE⟩ := hv
  have hx := B.exec
  have hb := B.bytes
  have hr := B.returns
  have hts := atoms_spec (ws := wsX5_refusalOfSheet) B.pre
  have hown : s.vm.findClass RX5 = some m.cls := findClass_of_methodNamed B.named
  have hlocks := B.notSynchronized
  subst hsz
  have hD := hD0.self (sz := s.heap.size)
  generalize hAe : va_A [(h0, .inr (5, [.ref tt, .ref rd, .ref nw, .ref th, .ref kp, .ref sh, .ref tu, .int 0])), (sh, .inr (2, [.ref qn, .ref qo, .ref ql])), (qo, .inl (G.2.1, 4, .inl (gFl (-1) (fun _ => 0) 4)))] s.heap.size = A at hD hE ⊢
  have hA : ∀ q : Nat, s.heap.size ≤ q → A q := fun q h => by rw [← hAe]; exact Or.inr h
  have hS : va_S A s.heap s.heap [] := va_S.rf
  have hP : va_P G.1 vwCl [(h0, .inr (5, [.ref tt, .ref rd, .ref nw, .ref th, .ref kp, .ref sh, .ref tu, .int 0])), (sh, .inr (2, [.ref qn, .ref qo, .ref ql])), (qo, .inl (G.2.1, 4, .inl (gFl (-1) (fun _ => 0) 4)))] s.heap := hP
  have hD : va_D A [(h0, .inr (5, [.ref tt, .ref rd, .ref nw, .ref th, .ref kp, .ref sh, .ref tu, .int 0])), (sh, .inr (2, [.ref qn, .ref qo, .ref ql])), (qo, .inl (G.2.1, 4, .inl (gFl (-1) (fun _ => 0) 4)))] := hD
  have hl := lv_entry ([.ref h0, .int v0]) (n := 5) (Nat.le_of_ble_eq_true rfl)
  rw [lg_entry_eq]
  generalize (lg_sl ([.ref h0, .int v0]) ++ List.replicate (5 - (lg_sl ([.ref h0, .int v0])).length) Slot.unset).toArray = ls at hl ⊢
  have hl : lv_has ls 5 [(0, .ref h0), (1, .int v0)] := hl
  have kf41 := hts (.fieldLink RX5 41 "PebbleInShoe" "rows" "LPebbleInShoe$Sheets;") (by decide +kernel)
  have hiX5 := (by decide +kernel : ∀ w ∈ wsX50, w ∈ wsX5_refusalOfSheet)
  have kf225 := hts (.fieldLink RX5 225 "PebbleInShoe$Sheets" "sorts" "[I") (by decide +kernel)
  have hiX2 := (by decide +kernel : ∀ w ∈ wsX20, w ∈ wsX5_refusalOfSheet)
  refine lv_aload_n hx hb dX5_refusalOfSheet_0 rfl (lv_at hl 0 rfl) ?_
  refine va_get (D := G.1) (ci := 5) (v := .ref sh) (C := RX5) (T := TX5) (N := 8) hx hb hts hiX5 hown hK hP 0 rfl rfl 5 (by decide) kf41 (fun _ h9 => h9) rfl dX5_refusalOfSheet_1 ?_
  refine lv_iload_n hx hb dX5_refusalOfSheet_4 rfl (lv_at hl 1 rfl) ?_
  have hPc : va_P G.1 vwCl [(sh, .inr (2, [.ref qn, .ref qo, .ref ql]))] s.heap := hP.sub [1] rfl
  have hDc : va_D A [(sh, .inr (2, [.ref qn, .ref qo, .ref ql]))] := hD.sub [1] (by decide) rfl
  have hFc := va_free (wc := [(sh, .inr (2, [.ref qn, .ref qo, .ref ql]))]) hD hS hA [1] rfl
  refine va_calli (va_runV (As := [.int v0]) (rest := []) ⟨hx, hb, hml, hown, hts⟩ (c_X2_isSheet l G E sh qn qo ql v0 s.heap.size) (cwV 1 hts gX5_refusalOfSheet_X2_isSheet rfl rfl rfl (by decide +kernel) ⟨Nat.le_of_ble_eq_true rfl, Nat.le_of_ble_eq_true rfl⟩) ⟨gPreE_blind, va_recv hK hPc (ci := 2) (q0 := 0) rfl rfl, fun U hU hW => gPreE_of hU hW hK hPc hDc hE hS hFc⟩ rfl rfl hl.1 rfl (lv_room (Nat.le_of_ble_eq_true rfl)) dX5_refusalOfSheet_5 ⟨Nat.le_of_ble_eq_true rfl, Nat.le_of_ble_eq_true rfl⟩) hS (fun q _ h => hFc q h) hFc (fun r_1 u t H locs ht hvm w_2 hB hz1 hk1 hS => ?_)
  obtain ⟨hP1, hK1, hD1⟩ := hB
  rw [ht] at hP1
  have hP1 : va_P G.1 vwCl [(sh, .inr (2, [.ref qn, .ref qo, .ref ql]))] H := hP1
  have hD1 : va_D (va_A [(sh, .inr (2, [.ref qn, .ref qo, .ref ql]))] s.heap.size) [(sh, .inr (2, [.ref qn, .ref qo, .ref ql]))] := hD1
  have w_2 : r_1 = bz (decide (0 ≤ v0 ∧ v0 ≤ 3)) := w_2
  obtain ⟨hP, hD⟩ := va_join (wr := [(h0, .inr (5, [.ref tt, .ref rd, .ref nw, .ref th, .ref kp, .ref sh, .ref tu, .int 0])), (qo, .inl (G.2.1, 4, .inl (gFl (-1) (fun _ => 0) 4)))]) (w1 := [(sh, .inr (2, [.ref qn, .ref qo, .ref ql]))]) hP hD [1] [0, 2] rfl rfl (by decide) (by decide) hk1 hFc hP1 hD1
  have hP : va_P G.1 vwCl [(h0, .inr (5, [.ref tt, .ref rd, .ref nw, .ref th, .ref kp, .ref sh, .ref tu, .int 0])), (qo, .inl (G.2.1, 4, .inl (gFl (-1) (fun _ => 0) 4))), (sh, .inr (2, [.ref qn, .ref qo, .ref ql]))] H := hP
  have hD : va_D A [(h0, .inr (5, [.ref tt, .ref rd, .ref nw, .ref th, .ref kp, .ref sh, .ref tu, .int 0])), (qo, .inl (G.2.1, 4, .inl (gFl (-1) (fun _ => 0) 4))), (sh, .inr (2, [.ref qn, .ref qo, .ref ql]))] := hD
  refine lv_if_ne (tgt := 14) hx hb dX5_refusalOfSheet_8 (by decide) (fun c_3 => ?_) (fun c_3 => ?_)
  · skip
    have p_4 : 0 ≤ v0 ∧ v0 ≤ 3 := of_decide_eq_true (bz_ne w_2 c_3)
    refine lv_aload_n hx hb dX5_refusalOfSheet_14 rfl (lv_at hl 0 rfl) ?_
    refine va_get (D := G.1) (ci := 5) (v := .ref sh) (C := RX5) (T := TX5) (N := 8) hx hb hts hiX5 hown hK hP 0 rfl rfl 5 (by decide) kf41 (fun _ h9 => h9) rfl dX5_refusalOfSheet_15 ?_
    refine va_get (D := G.1) (ci := 2) (v := .ref qo) (C := RX2) (T := TX2) (N := 3) hx hb hts hiX2 hown hK hP 2 rfl rfl 1 (by decide) kf225 (fun _ h9 => h9) rfl dX5_refusalOfSheet_18 ?_
    refine lv_iload_n hx hb dX5_refusalOfSheet_21 rfl (lv_at hl 1 rfl) ?_
    refine va_iald (D := G.1) hx hb hK hP 1 0 rfl rfl (i := v0) (g_in3 (by assumption)) dX5_refusalOfSheet_22 ?_
    refine lv_topi (fun v_6 ev_6 => ?_)
    have ev_6 : v_6 = -1 := ev_6.trans (g_m1 (by assumption))
    subst ev_6
    refine lv_iconst (v := -1) hx hb dX5_refusalOfSheet_23 (by decide) ?_
    refine lv_icmp_ne (tgt := 30) hx hb dX5_refusalOfSheet_24 (by decide) (fun c_7 => ?_) (fun c_7 => ?_)
    · exact absurd (by decide) c_7
    refine lv_bipush (v := -11) hx hb dX5_refusalOfSheet_27 (by decide) ?_
    have hP9 := hP.sub (ws' := [(h0, .inr (5, [.ref tt, .ref rd, .ref nw, .ref th, .ref kp, .ref sh, .ref tu, .int 0])), (sh, .inr (2, [.ref qn, .ref qo, .ref ql])), (qo, .inl (G.2.1, 4, .inl (gFl (-1) (fun _ => 0) 4)))]) [0, 2, 1] rfl
    have hD9 := hD.sub (ws' := [(h0, .inr (5, [.ref tt, .ref rd, .ref nw, .ref th, .ref kp, .ref sh, .ref tu, .int 0])), (sh, .inr (2, [.ref qn, .ref qo, .ref ql])), (qo, .inl (G.2.1, 4, .inl (gFl (-1) (fun _ => 0) 4)))]) [0, 2, 1] (by decide) rfl
    have hpost : (fun (r : Int32) (u : Unit) => match u with | _ => r = (if 0 ≤ v0 ∧ v0 ≤ 3 then -11 else -2)) (-11) () := pp_X5_refusalOfSheet_0_1 v0 p_4
    exact W.iret (v := (-11)) hx hb hr (fun t ht hW => ⟨⟨(-11), (), rfl, hpost, by rw [ht]; exact hP9, va_K.moved hW.alike hK, hD9⟩, hS.F ht⟩) hS.2.2 dX5_refusalOfSheet_29
  · skip
    have n_5 : ¬ (0 ≤ v0 ∧ v0 ≤ 3) := of_decide_eq_false (bz_eq w_2 c_3)
    refine lv_bipush (v := -2) hx hb dX5_refusalOfSheet_11 (by decide) ?_
    have hP9 := hP.sub (ws' := [(h0, .inr (5, [.ref tt, .ref rd, .ref nw, .ref th, .ref kp, .ref sh, .ref tu, .int 0])), (sh, .inr (2, [.ref qn, .ref qo, .ref ql])), (qo, .inl (G.2.1, 4, .inl (gFl (-1) (fun _ => 0) 4)))]) [0, 2, 1] rfl
    have hD9 := hD.sub (ws' := [(h0, .inr (5, [.ref tt, .ref rd, .ref nw, .ref th, .ref kp, .ref sh, .ref tu, .int 0])), (sh, .inr (2, [.ref qn, .ref qo, .ref ql])), (qo, .inl (G.2.1, 4, .inl (gFl (-1) (fun _ => 0) 4)))]) [0, 2, 1] (by decide) rfl
    have hpost : (fun (r : Int32) (u : Unit) => match u with | _ => r = (if 0 ≤ v0 ∧ v0 ≤ 3 then -11 else -2)) (-2) () := pp_X5_refusalOfSheet_0_2 v0 n_5
    exact W.iret (v := (-2)) hx hb hr (fun t ht hW => ⟨⟨(-2), (), rfl, hpost, by rw [ht]; exact hP9, va_K.moved hW.alike hK, hD9⟩, hS.F ht⟩) hS.2.2 dX5_refusalOfSheet_13
abbrev q_X5_refusalOf_0 (G : gG) (E : gS) (h0 tt rd nw th kp sh tu qn qo ql : Nat) (v0 : Int32) (v1 : Int32) (A : Nat → Prop) : Array Value → State → Outcome → State → Prop := va_Qi (fun (r : Int32) (u : Unit) => match u with | _ => r = (if 0 ≤ v0 ∧ v0 ≤ 3 then -11 else -2)) (fun (u : Unit) t => match u with | _ => va_P G.1 vwCl [(h0, .inr (5, [.ref tt, .ref rd, .ref nw, .ref th, .ref kp, .ref sh, .ref tu, .int 0])), (sh, .inr (2, [.ref qn, .ref qo, .ref ql])), (qo, .inl (G.2.1, 4, .inl (gFl (-1) (fun _ => 0) 4)))] t.heap ∧ gK G t ∧ va_D A [(h0, .inr (5, [.ref tt, .ref rd, .ref nw, .ref th, .ref kp, .ref sh, .ref tu, .int 0])), (sh, .inr (2, [.ref qn, .ref qo, .ref ql])), (qo, .inl (G.2.1, 4, .inl (gFl (-1) (fun _ => 0) 4)))]) A
set_option maxHeartbeats 4000000 in
set_option maxRecDepth 100000 in
theorem c_X5_refusalOf_0 (l : Launch) (G : gG) (E : gS) (h0 tt rd nw th kp sh tu qn qo ql : Nat) (v0 : Int32) (v1 : Int32) (sz : Nat) : Met l yX5_refusalOf wsX5_refusalOf ({ frames := 3, cells := 0, slots := 0, locals := 66 }) (gPreE G E [.ref h0, .int v0, .int v1] [(h0, .inr (5, [.ref tt, .ref rd, .ref nw, .ref th, .ref kp, .ref sh, .ref tu, .int 0])), (sh, .inr (2, [.ref qn, .ref qo, .ref ql])), (qo, .inl (G.2.1, 4, .inl (gFl (-1) (fun _ => 0) 4)))] sz) (q_X5_refusalOf_0 G E h0 tt rd nw th kp sh tu qn qo ql v0 v1 (va_A [(h0, .inr (5, [.ref tt, .ref rd, .ref nw, .ref th, .ref kp, .ref sh, .ref tu, .int 0])), (sh, .inr (2, [.ref qn, .ref qo, .ref ql])), (qo, .inl (G.2.1, 4, .inl (gFl (-1) (fun _ => 0) 4)))] sz)) 0 0 (va_A [(h0, .inr (5, [.ref tt, .ref rd, .ref nw, .ref th, .ref kp, .ref sh, .ref tu, .int 0])), (sh, .inr (2, [.ref qn, .ref qo, .ref ql])), (qo, .inl (G.2.1, 4, .inl (gFl (-1) (fun _ => 0) 4)))] sz) := by
  refine Met.ofW (cc := cX5_refusalOf) (maxL := 4) (ret := (some .int)) (by decide) rfl ?_
  intro p e s m args below meth c s₁ B hml hv
  obtain ⟨rfl, hsz, hP, hK, hD0, hE⟩ := hv
  have hx := B.exec
  have hb := B.bytes
  have hr := B.returns
  have hts := atoms_spec (ws := wsX5_refusalOf) B.pre
  have hown : s.vm.findClass RX5 = some m.cls := findClass_of_methodNamed B.named
  have hlocks := B.notSynchronized
  subst hsz
  have hD := hD0.self (sz := s.heap.size)
  generalize hAe : va_A [(h0, .inr (5, [.ref tt, .ref rd, .ref nw, .ref th, .ref kp, .ref sh, .ref tu, .int 0])), (sh, .inr (2, [.ref qn, .ref qo, .ref ql])), (qo, .inl (G.2.1, 4, .inl (gFl (-1) (fun _ => 0) 4)))] s.heap.size = A at hD hE ⊢
  have hA : ∀ q : Nat, s.heap.size ≤ q → A q := fun q h => by rw [← hAe]; exact Or.inr h
  have hS : va_S A s.heap s.heap [] := va_S.rf
  have hP : va_P G.1 vwCl [(h0, .inr (5, [.ref tt, .ref rd, .ref nw, .ref th, .ref kp, .ref sh, .ref tu, .int 0])), (sh, .inr (2, [.ref qn, .ref qo, .ref ql])), (qo, .inl (G.2.1, 4, .inl (gFl (-1) (fun _ => 0) 4)))] s.heap := hP
  have hD : va_D A [(h0, .inr (5, [.ref tt, .ref rd, .ref nw, .ref th, .ref kp, .ref sh, .ref tu, .int 0])), (sh, .inr (2, [.ref qn, .ref qo, .ref ql])), (qo, .inl (G.2.1, 4, .inl (gFl (-1) (fun _ => 0) 4)))] := hD
  have hl := lv_entry ([.ref h0, .int v0, .int v1]) (n := 4) (Nat.le_of_ble_eq_true rfl)
  rw [lg_entry_eq]
  generalize (lg_sl ([.ref h0, .int v0, .int v1]) ++ List.replicate (4 - (lg_sl ([.ref h0, .int v0, .int v1])).length) Slot.unset).toArray = ls at hl ⊢
  have hl : lv_has ls 4 [(0, .ref h0), (1, .int v0), (2, .int v1)] := hl
  refine lv_aload_n hx hb dX5_refusalOf_0 rfl (lv_at hl 0 rfl) ?_
  refine lv_iload_n hx hb dX5_refusalOf_1 rfl (lv_at hl 1 rfl) ?_
  have hPc : va_P G.1 vwCl [(h0, .inr (5, [.ref tt, .ref rd, .ref nw, .ref th, .ref kp, .ref sh, .ref tu, .int 0])), (sh, .inr (2, [.ref qn, .ref qo, .ref ql])), (qo, .inl (G.2.1, 4, .inl (gFl (-1) (fun _ => 0) 4)))] s.heap := hP.sub [0, 1, 2] rfl
  have hDc : va_D A [(h0, .inr (5, [.ref tt, .ref rd, .ref nw, .ref th, .ref kp, .ref sh, .ref tu, .int 0])), (sh, .inr (2, [.ref qn, .ref qo, .ref ql])), (qo, .inl (G.2.1, 4, .inl (gFl (-1) (fun _ => 0) 4)))] := hD.sub [0, 1, 2] (by decide) rfl
  have hFc := va_free (wc := [(h0, .inr (5, [.ref tt, .ref rd, .ref nw, .ref th, .ref kp, .ref sh, .ref tu, .int 0])), (sh, .inr (2, [.ref qn, .ref qo, .ref ql])), (qo, .inl (G.2.1, 4, .inl (gFl (-1) (fun _ => 0) 4)))]) hD hS hA [0, 1, 2] rfl
  refine va_calli (va_runV (As := [.int v0]) (rest := []) ⟨hx, hb, hml, hown, hts⟩ (c_X5_refusalOfSheet_0 l G E h0 tt rd nw th kp sh tu qn qo ql v0 s.heap.size) (cwV 1 hts gX5_refusalOf_X5_refusalOfSheet rfl rfl rfl (by decide +kernel) ⟨Nat.le_of_ble_eq_true rfl, Nat.le_of_ble_eq_true rfl⟩) ⟨gPreE_blind, va_recv hK hPc (ci := 5) (q0 := 0) rfl rfl, fun U hU hW => gPreE_of hU hW hK hPc hDc hE hS hFc⟩ rfl rfl hl.1 rfl (lv_room (Nat.le_of_ble_eq_true rfl)) dX5_refusalOf_2 ⟨Nat.le_of_ble_eq_true rfl, Nat.le_of_ble_eq_true rfl⟩) hS (fun q _ h => hFc q h) hFc (fun r_1 u t H locs ht hvm w_2 hB hz1 hk1 hS => ?_)
  obtain ⟨hP1, hK1, hD1⟩ := hB
  rw [ht] at hP1
  have hP1 : va_P G.1 vwCl [(h0, .inr (5, [.ref tt, .ref rd, .ref nw, .ref th, .ref kp, .ref sh, .ref tu, .int 0])), (sh, .inr (2, [.ref qn, .ref qo, .ref ql])), (qo, .inl (G.2.1, 4, .inl (gFl (-1) (fun _ => 0) 4)))] H := hP1
  have hD1 : va_D (va_A [(h0, .inr (5, [.ref tt, .ref rd, .ref nw, .ref th, .ref kp, .ref sh, .ref tu, .int 0])), (sh, .inr (2, [.ref qn, .ref qo, .ref ql])), (qo, .inl (G.2.1, 4, .inl (gFl (-1) (fun _ => 0) 4)))] s.heap.size) [(h0, .inr (5, [.ref tt, .ref rd, .ref nw, .ref th, .ref kp, .ref sh, .ref tu, .int 0])), (sh, .inr (2, [.ref qn, .ref qo, .ref ql])), (qo, .inl (G.2.1, 4, .inl (gFl (-1) (fun _ => 0) 4)))] := hD1
  have w_2 : r_1 = (if 0 ≤ v0 ∧ v0 ≤ 3 then -11 else -2) := w_2
  obtain ⟨hP, hD⟩ := va_join (wr := []) (w1 := [(h0, .inr (5, [.ref tt, .ref rd, .ref nw, .ref th, .ref kp, .ref sh, .ref tu, .int 0])), (sh, .inr (2, [.ref qn, .ref qo, .ref ql])), (qo, .inl (G.2.1, 4, .inl (gFl (-1) (fun _ => 0) 4)))]) hP hD [0, 1, 2] [] rfl rfl (by decide) (by decide) hk1 hFc hP1 hD1
  have hP : va_P G.1 vwCl [(h0, .inr (5, [.ref tt, .ref rd, .ref nw, .ref th, .ref kp, .ref sh, .ref tu, .int 0])), (sh, .inr (2, [.ref qn, .ref qo, .ref ql])), (qo, .inl (G.2.1, 4, .inl (gFl (-1) (fun _ => 0) 4)))] H := hP
  have hD : va_D A [(h0, .inr (5, [.ref tt, .ref rd, .ref nw, .ref th, .ref kp, .ref sh, .ref tu, .int 0])), (sh, .inr (2, [.ref qn, .ref qo, .ref ql])), (qo, .inl (G.2.1, 4, .inl (gFl (-1) (fun _ => 0) 4)))] := hD
  have hne : ¬ r_1 = 0 := by rw [w_2]; exact g_ne _
  have hrv := w_2
  refine lv_istore_n (lv' := [(3, .int r_1), (0, .ref h0), (1, .int v0), (2, .int v1)]) hx hb dX5_refusalOf_5 rfl hl (by decide) rfl (fun ls hl => ?_)
  refine lv_iload_n hx hb dX5_refusalOf_6 rfl (lv_at hl 0 rfl) ?_
  refine lv_if_eq (tgt := 12) hx hb dX5_refusalOf_7 (by decide) (fun c_3 => ?_) (fun c_3 => ?_)
  · exact absurd c_3 (hne)
  refine lv_iload_n hx hb dX5_refusalOf_10 rfl (lv_at hl 0 rfl) ?_
  have hP9 := hP.sub (ws' := [(h0, .inr (5, [.ref tt, .ref rd, .ref nw, .ref th, .ref kp, .ref sh, .ref tu, .int 0])), (sh, .inr (2, [.ref qn, .ref qo, .ref ql])), (qo, .inl (G.2.1, 4, .inl (gFl (-1) (fun _ => 0) 4)))]) [0, 1, 2] rfl
  have hD9 := hD.sub (ws' := [(h0, .inr (5, [.ref tt, .ref rd, .ref nw, .ref th, .ref kp, .ref sh, .ref tu, .int 0])), (sh, .inr (2, [.ref qn, .ref qo, .ref ql])), (qo, .inl (G.2.1, 4, .inl (gFl (-1) (fun _ => 0) 4)))]) [0, 1, 2] (by decide) rfl
  have hpost : (fun (r : Int32) (u : Unit) => match u with | _ => r = (if 0 ≤ v0 ∧ v0 ≤ 3 then -11 else -2)) r_1 () := hrv
  exact W.iret (v := r_1) hx hb hr (fun t ht hW => ⟨⟨r_1, (), rfl, hpost, by rw [ht]; exact hP9, va_K.moved hW.alike hK, hD9⟩, hS.F ht⟩) hS.2.2 dX5_refusalOf_11
theorem pp_X5_count_0_1 (v0 : Int32) (s_1 : v0 = 0) : (0 : Int32) = (if v0 = 2 then 1 else if v0 = 0 ∨ v0 = 1 ∨ v0 = 3 ∨ v0 = 4 then 0 else -2) := by
  first
    | rfl
    | exact bz_pos (by (first | omega | (simp only [Int32.lt_iff_toInt_lt, Int32.le_iff_toInt_le, ← Int32.toInt_inj, Int32.reduceToInt] at * <;> omega)))
    | exact bz_neg (by (first | omega | (simp only [Int32.lt_iff_toInt_lt, Int32.le_iff_toInt_le, ← Int32.toInt_inj, Int32.reduceToInt] at * <;> omega)))
    | ((repeat' split) <;> first | rfl | assumption | (symm; assumption) | (exfalso; (first | omega | (simp only [Int32.lt_iff_toInt_lt, Int32.le_iff_toInt_le, ← Int32.toInt_inj, Int32.reduceToInt] at * <;> omega))))
theorem pp_X5_count_0_2 (v0 : Int32) (s_1 : ¬ (v0 = 0)) (s_2 : v0 = 1) : (0 : Int32) = (if v0 = 2 then 1 else if v0 = 0 ∨ v0 = 1 ∨ v0 = 3 ∨ v0 = 4 then 0 else -2) := by
  first
    | rfl
    | exact bz_pos (by (first | omega | (simp only [Int32.lt_iff_toInt_lt, Int32.le_iff_toInt_le, ← Int32.toInt_inj, Int32.reduceToInt] at * <;> omega)))
    | exact bz_neg (by (first | omega | (simp only [Int32.lt_iff_toInt_lt, Int32.le_iff_toInt_le, ← Int32.toInt_inj, Int32.reduceToInt] at * <;> omega)))
    | ((repeat' split) <;> first | rfl | assumption | (symm; assumption) | (exfalso; (first | omega | (simp only [Int32.lt_iff_toInt_lt, Int32.le_iff_toInt_le, ← Int32.toInt_inj, Int32.reduceToInt] at * <;> omega))))
theorem pp_X5_count_0_3 (v0 : Int32) (s_1 : ¬ (v0 = 0)) (s_2 : ¬ (v0 = 1)) (s_3 : v0 = 2) : (1 : Int32) = (if v0 = 2 then 1 else if v0 = 0 ∨ v0 = 1 ∨ v0 = 3 ∨ v0 = 4 then 0 else -2) := by
  first
    | rfl
    | exact bz_pos (by (first | omega | (simp only [Int32.lt_iff_toInt_lt, Int32.le_iff_toInt_le, ← Int32.toInt_inj, Int32.reduceToInt] at * <;> omega)))
    | exact bz_neg (by (first | omega | (simp only [Int32.lt_iff_toInt_lt, Int32.le_iff_toInt_le, ← Int32.toInt_inj, Int32.reduceToInt] at * <;> omega)))
    | ((repeat' split) <;> first | rfl | assumption | (symm; assumption) | (exfalso; (first | omega | (simp only [Int32.lt_iff_toInt_lt, Int32.le_iff_toInt_le, ← Int32.toInt_inj, Int32.reduceToInt] at * <;> omega))))
theorem pp_X5_count_0_4 (v0 : Int32) (s_1 : ¬ (v0 = 0)) (s_2 : ¬ (v0 = 1)) (s_3 : ¬ (v0 = 2)) (s_4 : v0 = 3) : (0 : Int32) = (if v0 = 2 then 1 else if v0 = 0 ∨ v0 = 1 ∨ v0 = 3 ∨ v0 = 4 then 0 else -2) := by
  first
    | rfl
    | exact bz_pos (by (first | omega | (simp only [Int32.lt_iff_toInt_lt, Int32.le_iff_toInt_le, ← Int32.toInt_inj, Int32.reduceToInt] at * <;> omega)))
    | exact bz_neg (by (first | omega | (simp only [Int32.lt_iff_toInt_lt, Int32.le_iff_toInt_le, ← Int32.toInt_inj, Int32.reduceToInt] at * <;> omega)))
    | ((repeat' split) <;> first | rfl | assumption | (symm; assumption) | (exfalso; (first | omega | (simp only [Int32.lt_iff_toInt_lt, Int32.le_iff_toInt_le, ← Int32.toInt_inj, Int32.reduceToInt] at * <;> omega))))
theorem pp_X5_count_0_5 (v0 : Int32) (s_1 : ¬ (v0 = 0)) (s_2 : ¬ (v0 = 1)) (s_3 : ¬ (v0 = 2)) (s_4 : ¬ (v0 = 3)) (s_5 : v0 = 4) : (0 : Int32) = (if v0 = 2 then 1 else if v0 = 0 ∨ v0 = 1 ∨ v0 = 3 ∨ v0 = 4 then 0 else -2) := by
  first
    | rfl
    | exact bz_pos (by (first | omega | (simp only [Int32.lt_iff_toInt_lt, Int32.le_iff_toInt_le, ← Int32.toInt_inj, Int32.reduceToInt] at * <;> omega)))
    | exact bz_neg (by (first | omega | (simp only [Int32.lt_iff_toInt_lt, Int32.le_iff_toInt_le, ← Int32.toInt_inj, Int32.reduceToInt] at * <;> omega)))
    | ((repeat' split) <;> first | rfl | assumption | (symm; assumption) | (exfalso; (first | omega | (simp only [Int32.lt_iff_toInt_lt, Int32.le_iff_toInt_le, ← Int32.toInt_inj, Int32.reduceToInt] at * <;> omega))))
theorem pp_X5_count_0_6 (v0 : Int32) (s_1 : ¬ (v0 = 0)) (s_2 : ¬ (v0 = 1)) (s_3 : ¬ (v0 = 2)) (s_4 : ¬ (v0 = 3)) (s_5 : ¬ (v0 = 4)) : ((-2) : Int32) = (if v0 = 2 then 1 else if v0 = 0 ∨ v0 = 1 ∨ v0 = 3 ∨ v0 = 4 then 0 else -2) := by
  first
    | rfl
    | exact bz_pos (by (first | omega | (simp only [Int32.lt_iff_toInt_lt, Int32.le_iff_toInt_le, ← Int32.toInt_inj, Int32.reduceToInt] at * <;> omega)))
    | exact bz_neg (by (first | omega | (simp only [Int32.lt_iff_toInt_lt, Int32.le_iff_toInt_le, ← Int32.toInt_inj, Int32.reduceToInt] at * <;> omega)))
    | ((repeat' split) <;> first | rfl | assumption | (symm; assumption) | (exfalso; (first | omega | (simp only [Int32.lt_iff_toInt_lt, Int32.le_iff_toInt_le, ← Int32.toInt_inj, Int32.reduceToInt] at * <;> omega))))
abbrev q_X5_count_0 (G : gG) (h0 tt rd nw th kp sh tu b0 co en sk n1 n2 n3 n4 n5 n6 n7 n8 : Nat) (v0 : Int32) (A : Nat → Prop) : Array Value → State → Outcome → State → Prop := va_Qi (fun (r : Int32) (u : Unit) => match u with | _ => r = (if v0 = 2 then 1 else if v0 = 0 ∨ v0 = 1 ∨ v0 = 3 ∨ v0 = 4 then 0 else -2)) (fun (u : Unit) t => match u with | _ => True) A
set_option maxHeartbeats 4000000 in
set_option maxRecDepth 100000 in
theorem c_X5_count_0 (l : Launch) (G : gG) (h0 tt rd nw th kp sh tu b0 co en sk n1 n2 n3 n4 n5 n6 n7 n8 : Nat) (v0 : Int32) (sz : Nat) : Met l yX5_count wsX5_count ({ frames := 0, cells := 0, slots := 0, locals := 0 }) (gPre G [.ref h0, .int v0] [(h0, .inr (5, [.ref tt, .ref rd, .ref nw, .ref th, .ref kp, .ref sh, .ref tu, .int 0])), (rd, .inr (1, [.ref tt, .ref b0, .int 40, .int 0, .int 40, .int 30, .int 0])), (tt, .inr (3, [.ref co, .ref en, .ref sk, .int 5, .int 1])), (nw, .inr (0, [.ref tt, .ref n1, .ref n2, .ref n3, .ref n4, .ref n5, .ref n6, .ref n7, .ref n8, .int 0, .int 0, .int 0]))] sz) (q_X5_count_0 G h0 tt rd nw th kp sh tu b0 co en sk n1 n2 n3 n4 n5 n6 n7 n8 v0 (va_A [(h0, .inr (5, [.ref tt, .ref rd, .ref nw, .ref th, .ref kp, .ref sh, .ref tu, .int 0])), (rd, .inr (1, [.ref tt, .ref b0, .int 40, .int 0, .int 40, .int 30, .int 0])), (tt, .inr (3, [.ref co, .ref en, .ref sk, .int 5, .int 1])), (nw, .inr (0, [.ref tt, .ref n1, .ref n2, .ref n3, .ref n4, .ref n5, .ref n6, .ref n7, .ref n8, .int 0, .int 0, .int 0]))] sz)) 0 0 (va_A [(h0, .inr (5, [.ref tt, .ref rd, .ref nw, .ref th, .ref kp, .ref sh, .ref tu, .int 0])), (rd, .inr (1, [.ref tt, .ref b0, .int 40, .int 0, .int 40, .int 30, .int 0])), (tt, .inr (3, [.ref co, .ref en, .ref sk, .int 5, .int 1])), (nw, .inr (0, [.ref tt, .ref n1, .ref n2, .ref n3, .ref n4, .ref n5, .ref n6, .ref n7, .ref n8, .int 0, .int 0, .int 0]))] sz) := by
  refine Met.ofW (cc := cX5_count) (maxL := 2) (ret := (some .int)) (by decide) rfl ?_
  intro p e s m args below meth c s₁ B hml hv
  obtain ⟨rfl, hsz, hP, hK, hD0⟩ := hv
  have hx := B.exec
  have hb := B.bytes
  have hr := B.returns
  have hts := atoms_spec (ws := wsX5_count) B.pre
  have hown : s.vm.findClass RX5 = some m.cls := findClass_of_methodNamed B.named
  have hlocks := B.notSynchronized
  subst hsz
  have hD := hD0.self (sz := s.heap.size)
  generalize hAe : va_A [(h0, .inr (5, [.ref tt, .ref rd, .ref nw, .ref th, .ref kp, .ref sh, .ref tu, .int 0])), (rd, .inr (1, [.ref tt, .ref b0, .int 40, .int 0, .int 40, .int 30, .int 0])), (tt, .inr (3, [.ref co, .ref en, .ref sk, .int 5, .int 1])), (nw, .inr (0, [.ref tt, .ref n1, .ref n2, .ref n3, .ref n4, .ref n5, .ref n6, .ref n7, .ref n8, .int 0, .int 0, .int 0]))] s.heap.size = A at hD ⊢
  have hA : ∀ q : Nat, s.heap.size ≤ q → A q := fun q h => by rw [← hAe]; exact Or.inr h
  have hS : va_S A s.heap s.heap [] := va_S.rf
  have hP : va_P G.1 vwCl [(h0, .inr (5, [.ref tt, .ref rd, .ref nw, .ref th, .ref kp, .ref sh, .ref tu, .int 0])), (rd, .inr (1, [.ref tt, .ref b0, .int 40, .int 0, .int 40, .int 30, .int 0])), (tt, .inr (3, [.ref co, .ref en, .ref sk, .int 5, .int 1])), (nw, .inr (0, [.ref tt, .ref n1, .ref n2, .ref n3, .ref n4, .ref n5, .ref n6, .ref n7, .ref n8, .int 0, .int 0, .int 0]))] s.heap := hP
  have hD : va_D A [(h0, .inr (5, [.ref tt, .ref rd, .ref nw, .ref th, .ref kp, .ref sh, .ref tu, .int 0])), (rd, .inr (1, [.ref tt, .ref b0, .int 40, .int 0, .int 40, .int 30, .int 0])), (tt, .inr (3, [.ref co, .ref en, .ref sk, .int 5, .int 1])), (nw, .inr (0, [.ref tt, .ref n1, .ref n2, .ref n3, .ref n4, .ref n5, .ref n6, .ref n7, .ref n8, .int 0, .int 0, .int 0]))] := hD
  have hl := lv_entry ([.ref h0, .int v0]) (n := 2) (Nat.le_of_ble_eq_true rfl)
  rw [lg_entry_eq]
  generalize (lg_sl ([.ref h0, .int v0]) ++ List.replicate (2 - (lg_sl ([.ref h0, .int v0])).length) Slot.unset).toArray = ls at hl ⊢
  have hl : lv_has ls 2 [(0, .ref h0), (1, .int v0)] := hl
  have kf28 := hts (.fieldLink RX5 28 "PebbleInShoe" "now" "LPebbleInShoe$Court;") (by decide +kernel)
  have hiX5 := (by decide +kernel : ∀ w ∈ wsX50, w ∈ wsX5_count)
  have kf71 := hts (.fieldLink RX5 71 "PebbleInShoe$Court" "pebbles" "I") (by decide +kernel)
  have hiX0 := (by decide +kernel : ∀ w ∈ wsX00, w ∈ wsX5_count)
  have kf75 := hts (.fieldLink RX5 75 "PebbleInShoe$Court" "judges" "I") (by decide +kernel)
  have kf10 := hts (.fieldLink RX5 10 "PebbleInShoe" "texts" "LPebbleInShoe$Texts;") (by decide +kernel)
  have kf78 := hts (.fieldLink RX5 78 "PebbleInShoe$Texts" "number" "I") (by decide +kernel)
  have hiX3 := (by decide +kernel : ∀ w ∈ wsX30, w ∈ wsX5_count)
  have kf81 := hts (.fieldLink RX5 81 "PebbleInShoe$Court" "law" "I") (by decide +kernel)
  have kf21 := hts (.fieldLink RX5 21 "PebbleInShoe" "tape" "LPebbleInShoe$Reader;") (by decide +kernel)
  have kf84 := hts (.fieldLink RX5 84 "PebbleInShoe$Reader" "length" "I") (by decide +kernel)
  have hiX1 := (by decide +kernel : ∀ w ∈ wsX10, w ∈ wsX5_count)
  refine lv_iload_n hx hb dX5_count_0 rfl (lv_at hl 1 rfl) ?_
  by_cases s_1 : v0 = 0
  · skip
    refine lv_tableIn (off := 35) (tgt := 36) hx hb dX5_count_1 (by rw [s_1]; decide) (by rw [s_1]; decide) (by rw [s_1]; decide) (by decide) ?_
    refine lv_aload_n hx hb dX5_count_36 rfl (lv_at hl 0 rfl) ?_
    refine va_get (D := G.1) (ci := 5) (v := .ref nw) (C := RX5) (T := TX5) (N := 8) hx hb hts hiX5 hown hK hP 0 rfl rfl 2 (by decide) kf28 (fun _ h9 => h9) rfl dX5_count_37 ?_
    refine va_get (D := G.1) (ci := 0) (v := .int 0) (C := RX0) (T := TX0) (N := 12) hx hb hts hiX0 hown hK hP 3 rfl rfl 10 (by decide) kf71 (fun _ h9 => h9) rfl dX5_count_40 ?_
    have hpost : (fun (r : Int32) (u : Unit) => match u with | _ => r = (if v0 = 2 then 1 else if v0 = 0 ∨ v0 = 1 ∨ v0 = 3 ∨ v0 = 4 then 0 else -2)) 0 () := pp_X5_count_0_1 v0 s_1
    exact W.iret (v := 0) hx hb hr (fun t ht hW => ⟨⟨0, (), rfl, hpost, trivial⟩, hS.F ht⟩) hS.2.2 dX5_count_43
  by_cases s_2 : v0 = 1
  · skip
    refine lv_tableIn (off := 43) (tgt := 44) hx hb dX5_count_1 (by rw [s_2]; decide) (by rw [s_2]; decide) (by rw [s_2]; decide) (by decide) ?_
    refine lv_aload_n hx hb dX5_count_44 rfl (lv_at hl 0 rfl) ?_
    refine va_get (D := G.1) (ci := 5) (v := .ref nw) (C := RX5) (T := TX5) (N := 8) hx hb hts hiX5 hown hK hP 0 rfl rfl 2 (by decide) kf28 (fun _ h9 => h9) rfl dX5_count_45 ?_
    refine va_get (D := G.1) (ci := 0) (v := .int 0) (C := RX0) (T := TX0) (N := 12) hx hb hts hiX0 hown hK hP 3 rfl rfl 9 (by decide) kf75 (fun _ h9 => h9) rfl dX5_count_48 ?_
    have hpost : (fun (r : Int32) (u : Unit) => match u with | _ => r = (if v0 = 2 then 1 else if v0 = 0 ∨ v0 = 1 ∨ v0 = 3 ∨ v0 = 4 then 0 else -2)) 0 () := pp_X5_count_0_2 v0 s_1 s_2
    exact W.iret (v := 0) hx hb hr (fun t ht hW => ⟨⟨0, (), rfl, hpost, trivial⟩, hS.F ht⟩) hS.2.2 dX5_count_51
  by_cases s_3 : v0 = 2
  · skip
    refine lv_tableIn (off := 51) (tgt := 52) hx hb dX5_count_1 (by rw [s_3]; decide) (by rw [s_3]; decide) (by rw [s_3]; decide) (by decide) ?_
    refine lv_aload_n hx hb dX5_count_52 rfl (lv_at hl 0 rfl) ?_
    refine va_get (D := G.1) (ci := 5) (v := .ref tt) (C := RX5) (T := TX5) (N := 8) hx hb hts hiX5 hown hK hP 0 rfl rfl 0 (by decide) kf10 (fun _ h9 => h9) rfl dX5_count_53 ?_
    refine va_get (D := G.1) (ci := 3) (v := .int 1) (C := RX3) (T := TX3) (N := 5) hx hb hts hiX3 hown hK hP 2 rfl rfl 4 (by decide) kf78 (fun _ h9 => h9) rfl dX5_count_56 ?_
    have hpost : (fun (r : Int32) (u : Unit) => match u with | _ => r = (if v0 = 2 then 1 else if v0 = 0 ∨ v0 = 1 ∨ v0 = 3 ∨ v0 = 4 then 0 else -2)) 1 () := pp_X5_count_0_3 v0 s_1 s_2 s_3
    exact W.iret (v := 1) hx hb hr (fun t ht hW => ⟨⟨1, (), rfl, hpost, trivial⟩, hS.F ht⟩) hS.2.2 dX5_count_59
  by_cases s_4 : v0 = 3
  · skip
    refine lv_tableIn (off := 59) (tgt := 60) hx hb dX5_count_1 (by rw [s_4]; decide) (by rw [s_4]; decide) (by rw [s_4]; decide) (by decide) ?_
    refine lv_aload_n hx hb dX5_count_60 rfl (lv_at hl 0 rfl) ?_
    refine va_get (D := G.1) (ci := 5) (v := .ref nw) (C := RX5) (T := TX5) (N := 8) hx hb hts hiX5 hown hK hP 0 rfl rfl 2 (by decide) kf28 (fun _ h9 => h9) rfl dX5_count_61 ?_
    refine va_get (D := G.1) (ci := 0) (v := .int 0) (C := RX0) (T := TX0) (N := 12) hx hb hts hiX0 hown hK hP 3 rfl rfl 11 (by decide) kf81 (fun _ h9 => h9) rfl dX5_count_64 ?_
    have hpost : (fun (r : Int32) (u : Unit) => match u with | _ => r = (if v0 = 2 then 1 else if v0 = 0 ∨ v0 = 1 ∨ v0 = 3 ∨ v0 = 4 then 0 else -2)) 0 () := pp_X5_count_0_4 v0 s_1 s_2 s_3 s_4
    exact W.iret (v := 0) hx hb hr (fun t ht hW => ⟨⟨0, (), rfl, hpost, trivial⟩, hS.F ht⟩) hS.2.2 dX5_count_67
  by_cases s_5 : v0 = 4
  · skip
    refine lv_tableIn (off := 67) (tgt := 68) hx hb dX5_count_1 (by rw [s_5]; decide) (by rw [s_5]; decide) (by rw [s_5]; decide) (by decide) ?_
    refine lv_aload_n hx hb dX5_count_68 rfl (lv_at hl 0 rfl) ?_
    refine va_get (D := G.1) (ci := 5) (v := .ref rd) (C := RX5) (T := TX5) (N := 8) hx hb hts hiX5 hown hK hP 0 rfl rfl 1 (by decide) kf21 (fun _ h9 => h9) rfl dX5_count_69 ?_
    refine va_get (D := G.1) (ci := 1) (v := .int 0) (C := RX1) (T := TX1) (N := 7) hx hb hts hiX1 hown hK hP 1 rfl rfl 6 (by decide) kf84 (fun _ h9 => h9) rfl dX5_count_72 ?_
    have hpost : (fun (r : Int32) (u : Unit) => match u with | _ => r = (if v0 = 2 then 1 else if v0 = 0 ∨ v0 = 1 ∨ v0 = 3 ∨ v0 = 4 then 0 else -2)) 0 () := pp_X5_count_0_5 v0 s_1 s_2 s_3 s_4 s_5
    exact W.iret (v := 0) hx hb hr (fun t ht hW => ⟨⟨0, (), rfl, hpost, trivial⟩, hS.F ht⟩) hS.2.2 dX5_count_75
  have s_1T := lv_neT (a := 0) s_1 (by decide)
  have s_2T := lv_neT (a := 1) s_2 (by decide)
  have s_3T := lv_neT (a := 2) s_3 (by decide)
  have s_4T := lv_neT (a := 3) s_4 (by decide)
  have s_5T := lv_neT (a := 4) s_5 (by decide)
  refine lv_tableOut (tgt := 76) hx hb dX5_count_1 (by omega) (by decide) ?_
  refine lv_bipush (v := -2) hx hb dX5_count_76 (by decide) ?_
  have hpost : (fun (r : Int32) (u : Unit) => match u with | _ => r = (if v0 = 2 then 1 else if v0 = 0 ∨ v0 = 1 ∨ v0 = 3 ∨ v0 = 4 then 0 else -2)) (-2) () := pp_X5_count_0_6 v0 s_1 s_2 s_3 s_4 s_5
  exact W.iret (v := (-2)) hx hb hr (fun t ht hW => ⟨⟨(-2), (), rfl, hpost, trivial⟩, hS.F ht⟩) hS.2.2 dX5_count_78
theorem pp_X5_judge_0_1 (v0 : Int32) (p_4 : 0 ≤ v0 ∧ v0 ≤ 20) : (0 : Int32) = (if 0 ≤ v0 ∧ v0 ≤ 20 then 0 else -2) := by
  first
    | rfl
    | exact bz_pos (by (first | omega | (simp only [Int32.lt_iff_toInt_lt, Int32.le_iff_toInt_le, ← Int32.toInt_inj, Int32.reduceToInt] at * <;> omega)))
    | exact bz_neg (by (first | omega | (simp only [Int32.lt_iff_toInt_lt, Int32.le_iff_toInt_le, ← Int32.toInt_inj, Int32.reduceToInt] at * <;> omega)))
    | ((repeat' split) <;> first | rfl | assumption | (symm; assumption) | (exfalso; (first | omega | (simp only [Int32.lt_iff_toInt_lt, Int32.le_iff_toInt_le, ← Int32.toInt_inj, Int32.reduceToInt] at * <;> omega))))
theorem pp_X5_judge_0_2 (v0 : Int32) (n_5 : ¬ (0 ≤ v0 ∧ v0 ≤ 20)) : ((-2) : Int32) = (if 0 ≤ v0 ∧ v0 ≤ 20 then 0 else -2) := by
  first
    | rfl
    | exact bz_pos (by (first | omega | (simp only [Int32.lt_iff_toInt_lt, Int32.le_iff_toInt_le, ← Int32.toInt_inj, Int32.reduceToInt] at * <;> omega)))
    | exact bz_neg (by (first | omega | (simp only [Int32.lt_iff_toInt_lt, Int32.le_iff_toInt_le, ← Int32.toInt_inj, Int32.reduceToInt] at * <;> omega)))
    | ((repeat' split) <;> first | rfl | assumption | (symm; assumption) | (exfalso; (first | omega | (simp only [Int32.lt_iff_toInt_lt, Int32.le_iff_toInt_le, ← Int32.toInt_inj, Int32.reduceToInt] at * <;> omega))))
abbrev q_X5_judge_0 (G : gG) (h0 tt rd nw th kp sh tu n1 n2 n3 n4 n5 n6 n7 n8 : Nat) (v0 : Int32) (A : Nat → Prop) : Array Value → State → Outcome → State → Prop := va_Qi (fun (r : Int32) (u : Unit) => match u with | _ => r = (if 0 ≤ v0 ∧ v0 ≤ 20 then 0 else -2)) (fun (u : Unit) t => match u with | _ => True) A
set_option maxHeartbeats 4000000 in
set_option maxRecDepth 100000 in
theorem c_X5_judge_0 (l : Launch) (G : gG) (h0 tt rd nw th kp sh tu n1 n2 n3 n4 n5 n6 n7 n8 : Nat) (v0 : Int32) (sz : Nat) : Met l yX5_judge wsX5_judge ({ frames := 1, cells := 0, slots := 0, locals := 22 }) (gPre G [.ref h0, .int v0] [(h0, .inr (5, [.ref tt, .ref rd, .ref nw, .ref th, .ref kp, .ref sh, .ref tu, .int 0])), (nw, .inr (0, [.ref tt, .ref n1, .ref n2, .ref n3, .ref n4, .ref n5, .ref n6, .ref n7, .ref n8, .int 0, .int 0, .int 0])), (n2, .inl (G.2.1, 4, .inl (fun _ => 0))), (n3, .inl (G.2.1, 4, .inl (fun _ => 0))), (n4, .inl (G.2.1, 4, .inl (fun _ => 0)))] sz) (q_X5_judge_0 G h0 tt rd nw th kp sh tu n1 n2 n3 n4 n5 n6 n7 n8 v0 (va_A [(h0, .inr (5, [.ref tt, .ref rd, .ref nw, .ref th, .ref kp, .ref sh, .ref tu, .int 0])), (nw, .inr (0, [.ref tt, .ref n1, .ref n2, .ref n3, .ref n4, .ref n5, .ref n6, .ref n7, .ref n8, .int 0, .int 0, .int 0])), (n2, .inl (G.2.1, 4, .inl (fun _ => 0))), (n3, .inl (G.2.1, 4, .inl (fun _ => 0))), (n4, .inl (G.2.1, 4, .inl (fun _ => 0)))] sz)) 0 0 (va_A [(h0, .inr (5, [.ref tt, .ref rd, .ref nw, .ref th, .ref kp, .ref sh, .ref tu, .int 0])), (nw, .inr (0, [.ref tt, .ref n1, .ref n2, .ref n3, .ref n4, .ref n5, .ref n6, .ref n7, .ref n8, .int 0, .int 0, .int 0])), (n2, .inl (G.2.1, 4, .inl (fun _ => 0))), (n3, .inl (G.2.1, 4, .inl (fun _ => 0))), (n4, .inl (G.2.1, 4, .inl (fun _ => 0)))] sz) := by
  refine Met.ofW (cc := cX5_judge) (maxL := 2) (ret := (some .int)) (by decide) rfl ?_
  intro p e s m args below meth c s₁ B hml hv
  obtain ⟨rfl, hsz, hP, hK, hD0⟩ := hv
  have hx := B.exec
  have hb := B.bytes
  have hr := B.returns
  have hts := atoms_spec (ws := wsX5_judge) B.pre
  have hown : s.vm.findClass RX5 = some m.cls := findClass_of_methodNamed B.named
  have hlocks := B.notSynchronized
  subst hsz
  have hD := hD0.self (sz := s.heap.size)
  generalize hAe : va_A [(h0, .inr (5, [.ref tt, .ref rd, .ref nw, .ref th, .ref kp, .ref sh, .ref tu, .int 0])), (nw, .inr (0, [.ref tt, .ref n1, .ref n2, .ref n3, .ref n4, .ref n5, .ref n6, .ref n7, .ref n8, .int 0, .int 0, .int 0])), (n2, .inl (G.2.1, 4, .inl (fun _ => 0))), (n3, .inl (G.2.1, 4, .inl (fun _ => 0))), (n4, .inl (G.2.1, 4, .inl (fun _ => 0)))] s.heap.size = A at hD ⊢
  have hA : ∀ q : Nat, s.heap.size ≤ q → A q := fun q h => by rw [← hAe]; exact Or.inr h
  have hS : va_S A s.heap s.heap [] := va_S.rf
  have hP : va_P G.1 vwCl [(h0, .inr (5, [.ref tt, .ref rd, .ref nw, .ref th, .ref kp, .ref sh, .ref tu, .int 0])), (nw, .inr (0, [.ref tt, .ref n1, .ref n2, .ref n3, .ref n4, .ref n5, .ref n6, .ref n7, .ref n8, .int 0, .int 0, .int 0])), (n2, .inl (G.2.1, 4, .inl (fun _ => 0))), (n3, .inl (G.2.1, 4, .inl (fun _ => 0))), (n4, .inl (G.2.1, 4, .inl (fun _ => 0)))] s.heap := hP
  have hD : va_D A [(h0, .inr (5, [.ref tt, .ref rd, .ref nw, .ref th, .ref kp, .ref sh, .ref tu, .int 0])), (nw, .inr (0, [.ref tt, .ref n1, .ref n2, .ref n3, .ref n4, .ref n5, .ref n6, .ref n7, .ref n8, .int 0, .int 0, .int 0])), (n2, .inl (G.2.1, 4, .inl (fun _ => 0))), (n3, .inl (G.2.1, 4, .inl (fun _ => 0))), (n4, .inl (G.2.1, 4, .inl (fun _ => 0)))] := hD
  have hl := lv_entry ([.ref h0, .int v0]) (n := 2) (Nat.le_of_ble_eq_true rfl)
  rw [lg_entry_eq]
  generalize (lg_sl ([.ref h0, .int v0]) ++ List.replicate (2 - (lg_sl ([.ref h0, .int v0])).length) Slot.unset).toArray = ls at hl ⊢
  have hl : lv_has ls 2 [(0, .ref h0), (1, .int v0)] := hl
  have kf28 := hts (.fieldLink RX5 28 "PebbleInShoe" "now" "LPebbleInShoe$Court;") (by decide +kernel)
  have hiX5 := (by decide +kernel : ∀ w ∈ wsX50, w ∈ wsX5_judge)
  refine lv_iload_n hx hb dX5_judge_0 rfl (lv_at hl 1 rfl) ?_
  refine lv_bipush (v := 20) hx hb dX5_judge_1 (by decide) ?_
  have hPc : va_P G.1 vwCl [] s.heap := hP.sub [] rfl
  have hDc : va_D A [] := hD.sub [] (by decide) rfl
  have hFc := va_free (wc := []) hD hS hA [] rfl
  refine va_calli (va_runS (As := [.int v0, .int 20]) (rest := []) ⟨hx, hb, hml, hown, hts⟩ (c_X5_within l G v0 20 s.heap.size) (va_cwS 2 hts gX5_judge_X5_within rfl rfl rfl (by decide +kernel) ⟨Nat.le_of_ble_eq_true rfl, Nat.le_of_ble_eq_true rfl⟩) ⟨gPre_blind, fun U hU hW => gPre_of hU hW hK hPc hDc⟩ rfl rfl hl.1 rfl (lv_room (Nat.le_of_ble_eq_true rfl)) dX5_judge_3 ⟨Nat.le_of_ble_eq_true rfl, Nat.le_of_ble_eq_true rfl⟩) hS (fun q _ h => hFc q h) hFc (fun r_1 u t H locs ht hvm w_2 hB hz1 hk1 hS => ?_)
  obtain ⟨hP1, hK1, hD1⟩ := hB
  rw [ht] at hP1
  have hP1 : va_P G.1 vwCl [] H := hP1
  have hD1 : va_D (va_A [] s.heap.size) [] := hD1
  have w_2 : r_1 = bz (decide (0 ≤ v0 ∧ v0 ≤ 20)) := w_2
  obtain ⟨hP, hD⟩ := va_join (wr := [(h0, .inr (5, [.ref tt, .ref rd, .ref nw, .ref th, .ref kp, .ref sh, .ref tu, .int 0])), (nw, .inr (0, [.ref tt, .ref n1, .ref n2, .ref n3, .ref n4, .ref n5, .ref n6, .ref n7, .ref n8, .int 0, .int 0, .int 0])), (n2, .inl (G.2.1, 4, .inl (fun _ => 0))), (n3, .inl (G.2.1, 4, .inl (fun _ => 0))), (n4, .inl (G.2.1, 4, .inl (fun _ => 0)))]) (w1 := []) hP hD [] [0, 1, 2, 3, 4] rfl rfl (by decide) (by decide) hk1 hFc hP1 hD1
  have hP : va_P G.1 vwCl [(h0, .inr (5, [.ref tt, .ref rd, .ref nw, .ref th, .ref kp, .ref sh, .ref tu, .int 0])), (nw, .inr (0, [.ref tt, .ref n1, .ref n2, .ref n3, .ref n4, .ref n5, .ref n6, .ref n7, .ref n8, .int 0, .int 0, .int 0])), (n2, .inl (G.2.1, 4, .inl (fun _ => 0))), (n3, .inl (G.2.1, 4, .inl (fun _ => 0))), (n4, .inl (G.2.1, 4, .inl (fun _ => 0)))] H := hP
  have hD : va_D A [(h0, .inr (5, [.ref tt, .ref rd, .ref nw, .ref th, .ref kp, .ref sh, .ref tu, .int 0])), (nw, .inr (0, [.ref tt, .ref n1, .ref n2, .ref n3, .ref n4, .ref n5, .ref n6, .ref n7, .ref n8, .int 0, .int 0, .int 0])), (n2, .inl (G.2.1, 4, .inl (fun _ => 0))), (n3, .inl (G.2.1, 4, .inl (fun _ => 0))), (n4, .inl (G.2.1, 4, .inl (fun _ => 0)))] := hD
  refine lv_if_ne (tgt := 12) hx hb dX5_judge_6 (by decide) (fun c_3 => ?_) (fun c_3 => ?_)
  · skip
    have p_4 : 0 ≤ v0 ∧ v0 ≤ 20 := of_decide_eq_true (bz_ne w_2 c_3)
    refine lv_aload_n hx hb dX5_judge_12 rfl (lv_at hl 0 rfl) ?_
    refine va_get (D := G.1) (ci := 5) (v := .ref nw) (C := RX5) (T := TX5) (N := 8) hx hb hts hiX5 hown hK hP 0 rfl rfl 2 (by decide) kf28 (fun _ h9 => h9) rfl dX5_judge_13 ?_
    refine lv_iload_n hx hb dX5_judge_16 rfl (lv_at hl 1 rfl) ?_
    have hPc : va_P G.1 vwCl [(nw, .inr (0, [.ref tt, .ref n1, .ref n2, .ref n3, .ref n4, .ref n5, .ref n6, .ref n7, .ref n8, .int 0, .int 0, .int 0])), (n2, .inl (G.2.1, 4, .inl (fun _ => 0))), (n3, .inl (G.2.1, 4, .inl (fun _ => 0))), (n4, .inl (G.2.1, 4, .inl (fun _ => 0)))] H := hP.sub [1, 2, 3, 4] rfl
    have hDc : va_D A [(nw, .inr (0, [.ref tt, .ref n1, .ref n2, .ref n3, .ref n4, .ref n5, .ref n6, .ref n7, .ref n8, .int 0, .int 0, .int 0])), (n2, .inl (G.2.1, 4, .inl (fun _ => 0))), (n3, .inl (G.2.1, 4, .inl (fun _ => 0))), (n4, .inl (G.2.1, 4, .inl (fun _ => 0)))] := hD.sub [1, 2, 3, 4] (by decide) rfl
    have hFc := va_free (wc := [(nw, .inr (0, [.ref tt, .ref n1, .ref n2, .ref n3, .ref n4, .ref n5, .ref n6, .ref n7, .ref n8, .int 0, .int 0, .int 0])), (n2, .inl (G.2.1, 4, .inl (fun _ => 0))), (n3, .inl (G.2.1, 4, .inl (fun _ => 0))), (n4, .inl (G.2.1, 4, .inl (fun _ => 0)))]) hD hS hA [1, 2, 3, 4] rfl
    refine va_calli (va_runV (As := [.int v0]) (rest := []) ⟨hx, hb, hml, hown, hts⟩ (c_X0_addJudge_0 l G nw tt n1 n2 n3 n4 n5 n6 n7 n8 v0 H.size) (cwV 1 hts gX5_judge_X0_addJudge rfl rfl rfl (by decide +kernel) ⟨Nat.le_of_ble_eq_true rfl, Nat.le_of_ble_eq_true rfl⟩) ⟨gPre_blind, va_recv hK hPc (ci := 0) (q0 := 0) rfl rfl, fun U hU hW => gPre_of hU hW hK hPc hDc⟩ rfl rfl hl.1 rfl (lv_room (Nat.le_of_ble_eq_true rfl)) dX5_judge_17 ⟨Nat.le_of_ble_eq_true rfl, Nat.le_of_ble_eq_true rfl⟩) hS (fun q _ h => hFc q h) hFc (fun r_6 u t H locs ht hvm w_7 hB hz1 hk1 hS => ?_)
    obtain ⟨hP1, hK1, hD1⟩ := hB
    rw [ht] at hP1
    have hP1 : va_P G.1 vwCl [(nw, .inr (0, [.ref tt, .ref n1, .ref n2, .ref n3, .ref n4, .ref n5, .ref n6, .ref n7, .ref n8, .int 1, .int 0, .int 0])), (n2, .inl (G.2.1, 4, .inl (upd (fun _ => 0) 0 v0))), (n3, .inl (G.2.1, 4, .inl (upd (fun _ => 0) 0 0))), (n4, .inl (G.2.1, 4, .inl (upd (fun _ => 0) 0 0)))] H := hP1
    have hD1 : va_D (va_A [(nw, .inr (0, [.ref tt, .ref n1, .ref n2, .ref n3, .ref n4, .ref n5, .ref n6, .ref n7, .ref n8, .int 0, .int 0, .int 0])), (n2, .inl (G.2.1, 4, .inl (fun _ => 0))), (n3, .inl (G.2.1, 4, .inl (fun _ => 0))), (n4, .inl (G.2.1, 4, .inl (fun _ => 0)))] _) [(nw, .inr (0, [.ref tt, .ref n1, .ref n2, .ref n3, .ref n4, .ref n5, .ref n6, .ref n7, .ref n8, .int 1, .int 0, .int 0])), (n2, .inl (G.2.1, 4, .inl (upd (fun _ => 0) 0 v0))), (n3, .inl (G.2.1, 4, .inl (upd (fun _ => 0) 0 0))), (n4, .inl (G.2.1, 4, .inl (upd (fun _ => 0) 0 0)))] := hD1
    have w_7 : r_6 = 0 := w_7
    obtain ⟨hP, hD⟩ := va_join (wr := [(h0, .inr (5, [.ref tt, .ref rd, .ref nw, .ref th, .ref kp, .ref sh, .ref tu, .int 0]))]) (w1 := [(nw, .inr (0, [.ref tt, .ref n1, .ref n2, .ref n3, .ref n4, .ref n5, .ref n6, .ref n7, .ref n8, .int 1, .int 0, .int 0])), (n2, .inl (G.2.1, 4, .inl (upd (fun _ => 0) 0 v0))), (n3, .inl (G.2.1, 4, .inl (upd (fun _ => 0) 0 0))), (n4, .inl (G.2.1, 4, .inl (upd (fun _ => 0) 0 0)))]) hP hD [1, 2, 3, 4] [0] rfl rfl (by decide) (by decide) hk1 hFc hP1 hD1
    have hP : va_P G.1 vwCl [(h0, .inr (5, [.ref tt, .ref rd, .ref nw, .ref th, .ref kp, .ref sh, .ref tu, .int 0])), (nw, .inr (0, [.ref tt, .ref n1, .ref n2, .ref n3, .ref n4, .ref n5, .ref n6, .ref n7, .ref n8, .int 1, .int 0, .int 0])), (n2, .inl (G.2.1, 4, .inl (upd (fun _ => 0) 0 v0))), (n3, .inl (G.2.1, 4, .inl (upd (fun _ => 0) 0 0))), (n4, .inl (G.2.1, 4, .inl (upd (fun _ => 0) 0 0)))] H := hP
    have hD : va_D A [(h0, .inr (5, [.ref tt, .ref rd, .ref nw, .ref th, .ref kp, .ref sh, .ref tu, .int 0])), (nw, .inr (0, [.ref tt, .ref n1, .ref n2, .ref n3, .ref n4, .ref n5, .ref n6, .ref n7, .ref n8, .int 1, .int 0, .int 0])), (n2, .inl (G.2.1, 4, .inl (upd (fun _ => 0) 0 v0))), (n3, .inl (G.2.1, 4, .inl (upd (fun _ => 0) 0 0))), (n4, .inl (G.2.1, 4, .inl (upd (fun _ => 0) 0 0)))] := hD
    have w_7 : r_6 = 0 := w_7
    subst w_7
    have hpost : (fun (r : Int32) (u : Unit) => match u with | _ => r = (if 0 ≤ v0 ∧ v0 ≤ 20 then 0 else -2)) 0 () := pp_X5_judge_0_1 v0 p_4
    exact W.iret (v := 0) hx hb hr (fun t ht hW => ⟨⟨0, (), rfl, hpost, trivial⟩, hS.F ht⟩) hS.2.2 dX5_judge_20
  · skip
    have n_5 : ¬ (0 ≤ v0 ∧ v0 ≤ 20) := of_decide_eq_false (bz_eq w_2 c_3)
    refine lv_bipush (v := -2) hx hb dX5_judge_9 (by decide) ?_
    have hpost : (fun (r : Int32) (u : Unit) => match u with | _ => r = (if 0 ≤ v0 ∧ v0 ≤ 20 then 0 else -2)) (-2) () := pp_X5_judge_0_2 v0 n_5
    exact W.iret (v := (-2)) hx hb hr (fun t ht hW => ⟨⟨(-2), (), rfl, hpost, trivial⟩, hS.F ht⟩) hS.2.2 dX5_judge_11
theorem pp_X5_shoe_0_1 (v0 : Int32) (v1 : Int32) (v2 : Int32) : ((-5) : Int32) = -5 := by
  first
    | rfl
    | exact bz_pos (by (first | omega | (simp only [Int32.lt_iff_toInt_lt, Int32.le_iff_toInt_le, ← Int32.toInt_inj, Int32.reduceToInt] at * <;> omega)))
    | exact bz_neg (by (first | omega | (simp only [Int32.lt_iff_toInt_lt, Int32.le_iff_toInt_le, ← Int32.toInt_inj, Int32.reduceToInt] at * <;> omega)))
    | ((repeat' split) <;> first | rfl | assumption | (symm; assumption) | (exfalso; (first | omega | (simp only [Int32.lt_iff_toInt_lt, Int32.le_iff_toInt_le, ← Int32.toInt_inj, Int32.reduceToInt] at * <;> omega))))
abbrev q_X5_shoe_0 (G : gG) (h0 tt rd nw th kp sh tu n1 n2 n3 n4 n5 n6 n7 n8 : Nat) (v0 : Int32) (v1 : Int32) (v2 : Int32) (A : Nat → Prop) : Array Value → State → Outcome → State → Prop := va_Qi (fun (r : Int32) (u : Unit) => match u with | _ => r = -5) (fun (u : Unit) t => match u with | _ => True) A
set_option maxHeartbeats 4000000 in
set_option maxRecDepth 100000 in
theorem c_X5_shoe_0 (l : Launch) (G : gG) (h0 tt rd nw th kp sh tu n1 n2 n3 n4 n5 n6 n7 n8 : Nat) (v0 : Int32) (v1 : Int32) (v2 : Int32) (sz : Nat) : Met l yX5_shoe wsX5_shoe ({ frames := 1, cells := 0, slots := 0, locals := 21 }) (gPre G [.ref h0, .int v0, .int v1, .int v2] [(h0, .inr (5, [.ref tt, .ref rd, .ref nw, .ref th, .ref kp, .ref sh, .ref tu, .int 0])), (nw, .inr (0, [.ref tt, .ref n1, .ref n2, .ref n3, .ref n4, .ref n5, .ref n6, .ref n7, .ref n8, .int 0, .int 0, .int 0]))] sz) (q_X5_shoe_0 G h0 tt rd nw th kp sh tu n1 n2 n3 n4 n5 n6 n7 n8 v0 v1 v2 (va_A [(h0, .inr (5, [.ref tt, .ref rd, .ref nw, .ref th, .ref kp, .ref sh, .ref tu, .int 0])), (nw, .inr (0, [.ref tt, .ref n1, .ref n2, .ref n3, .ref n4, .ref n5, .ref n6, .ref n7, .ref n8, .int 0, .int 0, .int 0]))] sz)) 0 0 (va_A [(h0, .inr (5, [.ref tt, .ref rd, .ref nw, .ref th, .ref kp, .ref sh, .ref tu, .int 0])), (nw, .inr (0, [.ref tt, .ref n1, .ref n2, .ref n3, .ref n4, .ref n5, .ref n6, .ref n7, .ref n8, .int 0, .int 0, .int 0]))] sz) := by
  refine Met.ofW (cc := cX5_shoe) (maxL := 6) (ret := (some .int)) (by decide) rfl ?_
  intro p e s m args below meth c s₁ B hml hv
  obtain ⟨rfl, hsz, hP, hK, hD0⟩ := hv
  have hx := B.exec
  have hb := B.bytes
  have hr := B.returns
  have hts := atoms_spec (ws := wsX5_shoe) B.pre
  have hown : s.vm.findClass RX5 = some m.cls := findClass_of_methodNamed B.named
  have hlocks := B.notSynchronized
  subst hsz
  have hD := hD0.self (sz := s.heap.size)
  generalize hAe : va_A [(h0, .inr (5, [.ref tt, .ref rd, .ref nw, .ref th, .ref kp, .ref sh, .ref tu, .int 0])), (nw, .inr (0, [.ref tt, .ref n1, .ref n2, .ref n3, .ref n4, .ref n5, .ref n6, .ref n7, .ref n8, .int 0, .int 0, .int 0]))] s.heap.size = A at hD ⊢
  have hA : ∀ q : Nat, s.heap.size ≤ q → A q := fun q h => by rw [← hAe]; exact Or.inr h
  have hS : va_S A s.heap s.heap [] := va_S.rf
  have hP : va_P G.1 vwCl [(h0, .inr (5, [.ref tt, .ref rd, .ref nw, .ref th, .ref kp, .ref sh, .ref tu, .int 0])), (nw, .inr (0, [.ref tt, .ref n1, .ref n2, .ref n3, .ref n4, .ref n5, .ref n6, .ref n7, .ref n8, .int 0, .int 0, .int 0]))] s.heap := hP
  have hD : va_D A [(h0, .inr (5, [.ref tt, .ref rd, .ref nw, .ref th, .ref kp, .ref sh, .ref tu, .int 0])), (nw, .inr (0, [.ref tt, .ref n1, .ref n2, .ref n3, .ref n4, .ref n5, .ref n6, .ref n7, .ref n8, .int 0, .int 0, .int 0]))] := hD
  have hl := lv_entry ([.ref h0, .int v0, .int v1, .int v2]) (n := 6) (Nat.le_of_ble_eq_true rfl)
  rw [lg_entry_eq]
  generalize (lg_sl ([.ref h0, .int v0, .int v1, .int v2]) ++ List.replicate (6 - (lg_sl ([.ref h0, .int v0, .int v1, .int v2])).length) Slot.unset).toArray = ls at hl ⊢
  have hl : lv_has ls 6 [(0, .ref h0), (1, .int v0), (2, .int v1), (3, .int v2)] := hl
  have kf28 := hts (.fieldLink RX5 28 "PebbleInShoe" "now" "LPebbleInShoe$Court;") (by decide +kernel)
  have hiX5 := (by decide +kernel : ∀ w ∈ wsX50, w ∈ wsX5_shoe)
  refine lv_aload_n hx hb dX5_shoe_0 rfl (lv_at hl 0 rfl) ?_
  refine va_get (D := G.1) (ci := 5) (v := .ref nw) (C := RX5) (T := TX5) (N := 8) hx hb hts hiX5 hown hK hP 0 rfl rfl 2 (by decide) kf28 (fun _ h9 => h9) rfl dX5_shoe_1 ?_
  refine lv_iload_n hx hb dX5_shoe_4 rfl (lv_at hl 1 rfl) ?_
  have hPc : va_P G.1 vwCl [(nw, .inr (0, [.ref tt, .ref n1, .ref n2, .ref n3, .ref n4, .ref n5, .ref n6, .ref n7, .ref n8, .int 0, .int 0, .int 0]))] s.heap := hP.sub [1] rfl
  have hDc : va_D A [(nw, .inr (0, [.ref tt, .ref n1, .ref n2, .ref n3, .ref n4, .ref n5, .ref n6, .ref n7, .ref n8, .int 0, .int 0, .int 0]))] := hD.sub [1] (by decide) rfl
  have hFc := va_free (wc := [(nw, .inr (0, [.ref tt, .ref n1, .ref n2, .ref n3, .ref n4, .ref n5, .ref n6, .ref n7, .ref n8, .int 0, .int 0, .int 0]))]) hD hS hA [1] rfl
  refine va_calli (va_runV (As := [.int v0]) (rest := []) ⟨hx, hb, hml, hown, hts⟩ (c_X0_hasJudge_0 l G nw tt n1 n2 n3 n4 n5 n6 n7 n8 v0 s.heap.size) (cwV 1 hts gX5_shoe_X0_hasJudge rfl rfl rfl (by decide +kernel) ⟨Nat.le_of_ble_eq_true rfl, Nat.le_of_ble_eq_true rfl⟩) ⟨gPre_blind, va_recv hK hPc (ci := 0) (q0 := 0) rfl rfl, fun U hU hW => gPre_of hU hW hK hPc hDc⟩ rfl rfl hl.1 rfl (lv_room (Nat.le_of_ble_eq_true rfl)) dX5_shoe_5 ⟨Nat.le_of_ble_eq_true rfl, Nat.le_of_ble_eq_true rfl⟩) hS (fun q _ h => hFc q h) hFc (fun r_1 u t H locs ht hvm w_2 hB hz1 hk1 hS => ?_)
  obtain ⟨hP1, hK1, hD1⟩ := hB
  rw [ht] at hP1
  have hP1 : va_P G.1 vwCl [(nw, .inr (0, [.ref tt, .ref n1, .ref n2, .ref n3, .ref n4, .ref n5, .ref n6, .ref n7, .ref n8, .int 0, .int 0, .int 0]))] H := hP1
  have hD1 : va_D (va_A [(nw, .inr (0, [.ref tt, .ref n1, .ref n2, .ref n3, .ref n4, .ref n5, .ref n6, .ref n7, .ref n8, .int 0, .int 0, .int 0]))] s.heap.size) [(nw, .inr (0, [.ref tt, .ref n1, .ref n2, .ref n3, .ref n4, .ref n5, .ref n6, .ref n7, .ref n8, .int 0, .int 0, .int 0]))] := hD1
  have w_2 : r_1 = 0 := w_2
  obtain ⟨hP, hD⟩ := va_join (wr := [(h0, .inr (5, [.ref tt, .ref rd, .ref nw, .ref th, .ref kp, .ref sh, .ref tu, .int 0]))]) (w1 := [(nw, .inr (0, [.ref tt, .ref n1, .ref n2, .ref n3, .ref n4, .ref n5, .ref n6, .ref n7, .ref n8, .int 0, .int 0, .int 0]))]) hP hD [1] [0] rfl rfl (by decide) (by decide) hk1 hFc hP1 hD1
  have hP : va_P G.1 vwCl [(h0, .inr (5, [.ref tt, .ref rd, .ref nw, .ref th, .ref kp, .ref sh, .ref tu, .int 0])), (nw, .inr (0, [.ref tt, .ref n1, .ref n2, .ref n3, .ref n4, .ref n5, .ref n6, .ref n7, .ref n8, .int 0, .int 0, .int 0]))] H := hP
  have hD : va_D A [(h0, .inr (5, [.ref tt, .ref rd, .ref nw, .ref th, .ref kp, .ref sh, .ref tu, .int 0])), (nw, .inr (0, [.ref tt, .ref n1, .ref n2, .ref n3, .ref n4, .ref n5, .ref n6, .ref n7, .ref n8, .int 0, .int 0, .int 0]))] := hD
  have w_2 : r_1 = 0 := w_2
  subst w_2
  refine lv_if_ne (tgt := 14) hx hb dX5_shoe_8 (by decide) (fun c_3 => ?_) (fun c_3 => ?_)
  · exact absurd (by decide) c_3
  refine lv_bipush (v := -5) hx hb dX5_shoe_11 (by decide) ?_
  have hpost : (fun (r : Int32) (u : Unit) => match u with | _ => r = -5) (-5) () := pp_X5_shoe_0_1 v0 v1 v2 
  exact W.iret (v := (-5)) hx hb hr (fun t ht hW => ⟨⟨(-5), (), rfl, hpost, trivial⟩, hS.F ht⟩) hS.2.2 dX5_shoe_13
theorem pp_X5_bench_0_1 (v0 : Int32) (v1 : Int32) : ((-5) : Int32) = -5 := by
  first
    | rfl
    | exact bz_pos (by (first | omega | (simp only [Int32.lt_iff_toInt_lt, Int32.le_iff_toInt_le, ← Int32.toInt_inj, Int32.reduceToInt] at * <;> omega)))
    | exact bz_neg (by (first | omega | (simp only [Int32.lt_iff_toInt_lt, Int32.le_iff_toInt_le, ← Int32.toInt_inj, Int32.reduceToInt] at * <;> omega)))
    | ((repeat' split) <;> first | rfl | assumption | (symm; assumption) | (exfalso; (first | omega | (simp only [Int32.lt_iff_toInt_lt, Int32.le_iff_toInt_le, ← Int32.toInt_inj, Int32.reduceToInt] at * <;> omega))))
abbrev q_X5_bench_0 (G : gG) (h0 tt rd nw th kp sh tu n1 n2 n3 n4 n5 n6 n7 n8 : Nat) (v0 : Int32) (v1 : Int32) (A : Nat → Prop) : Array Value → State → Outcome → State → Prop := va_Qi (fun (r : Int32) (u : Unit) => match u with | _ => r = -5) (fun (u : Unit) t => match u with | _ => True) A
set_option maxHeartbeats 4000000 in
set_option maxRecDepth 100000 in
theorem c_X5_bench_0 (l : Launch) (G : gG) (h0 tt rd nw th kp sh tu n1 n2 n3 n4 n5 n6 n7 n8 : Nat) (v0 : Int32) (v1 : Int32) (sz : Nat) : Met l yX5_bench wsX5_bench ({ frames := 1, cells := 0, slots := 0, locals := 21 }) (gPre G [.ref h0, .int v0, .int v1] [(h0, .inr (5, [.ref tt, .ref rd, .ref nw, .ref th, .ref kp, .ref sh, .ref tu, .int 0])), (nw, .inr (0, [.ref tt, .ref n1, .ref n2, .ref n3, .ref n4, .ref n5, .ref n6, .ref n7, .ref n8, .int 0, .int 0, .int 0]))] sz) (q_X5_bench_0 G h0 tt rd nw th kp sh tu n1 n2 n3 n4 n5 n6 n7 n8 v0 v1 (va_A [(h0, .inr (5, [.ref tt, .ref rd, .ref nw, .ref th, .ref kp, .ref sh, .ref tu, .int 0])), (nw, .inr (0, [.ref tt, .ref n1, .ref n2, .ref n3, .ref n4, .ref n5, .ref n6, .ref n7, .ref n8, .int 0, .int 0, .int 0]))] sz)) 0 0 (va_A [(h0, .inr (5, [.ref tt, .ref rd, .ref nw, .ref th, .ref kp, .ref sh, .ref tu, .int 0])), (nw, .inr (0, [.ref tt, .ref n1, .ref n2, .ref n3, .ref n4, .ref n5, .ref n6, .ref n7, .ref n8, .int 0, .int 0, .int 0]))] sz) := by
  refine Met.ofW (cc := cX5_bench) (maxL := 3) (ret := (some .int)) (by decide) rfl ?_
  intro p e s m args below meth c s₁ B hml hv
  obtain ⟨rfl, hsz, hP, hK, hD0⟩ := hv
  have hx := B.exec
  have hb := B.bytes
  have hr := B.returns
  have hts := atoms_spec (ws := wsX5_bench) B.pre
  have hown : s.vm.findClass RX5 = some m.cls := findClass_of_methodNamed B.named
  have hlocks := B.notSynchronized
  subst hsz
  have hD := hD0.self (sz := s.heap.size)
  generalize hAe : va_A [(h0, .inr (5, [.ref tt, .ref rd, .ref nw, .ref th, .ref kp, .ref sh, .ref tu, .int 0])), (nw, .inr (0, [.ref tt, .ref n1, .ref n2, .ref n3, .ref n4, .ref n5, .ref n6, .ref n7, .ref n8, .int 0, .int 0, .int 0]))] s.heap.size = A at hD ⊢
  have hA : ∀ q : Nat, s.heap.size ≤ q → A q := fun q h => by rw [← hAe]; exact Or.inr h
  have hS : va_S A s.heap s.heap [] := va_S.rf
  have hP : va_P G.1 vwCl [(h0, .inr (5, [.ref tt, .ref rd, .ref nw, .ref th, .ref kp, .ref sh, .ref tu, .int 0])), (nw, .inr (0, [.ref tt, .ref n1, .ref n2, .ref n3, .ref n4, .ref n5, .ref n6, .ref n7, .ref n8, .int 0, .int 0, .int 0]))] s.heap := hP
  have hD : va_D A [(h0, .inr (5, [.ref tt, .ref rd, .ref nw, .ref th, .ref kp, .ref sh, .ref tu, .int 0])), (nw, .inr (0, [.ref tt, .ref n1, .ref n2, .ref n3, .ref n4, .ref n5, .ref n6, .ref n7, .ref n8, .int 0, .int 0, .int 0]))] := hD
  have hl := lv_entry ([.ref h0, .int v0, .int v1]) (n := 3) (Nat.le_of_ble_eq_true rfl)
  rw [lg_entry_eq]
  generalize (lg_sl ([.ref h0, .int v0, .int v1]) ++ List.replicate (3 - (lg_sl ([.ref h0, .int v0, .int v1])).length) Slot.unset).toArray = ls at hl ⊢
  have hl : lv_has ls 3 [(0, .ref h0), (1, .int v0), (2, .int v1)] := hl
  have kf28 := hts (.fieldLink RX5 28 "PebbleInShoe" "now" "LPebbleInShoe$Court;") (by decide +kernel)
  have hiX5 := (by decide +kernel : ∀ w ∈ wsX50, w ∈ wsX5_bench)
  refine lv_aload_n hx hb dX5_bench_0 rfl (lv_at hl 0 rfl) ?_
  refine va_get (D := G.1) (ci := 5) (v := .ref nw) (C := RX5) (T := TX5) (N := 8) hx hb hts hiX5 hown hK hP 0 rfl rfl 2 (by decide) kf28 (fun _ h9 => h9) rfl dX5_bench_1 ?_
  refine lv_iload_n hx hb dX5_bench_4 rfl (lv_at hl 1 rfl) ?_
  have hPc : va_P G.1 vwCl [(nw, .inr (0, [.ref tt, .ref n1, .ref n2, .ref n3, .ref n4, .ref n5, .ref n6, .ref n7, .ref n8, .int 0, .int 0, .int 0]))] s.heap := hP.sub [1] rfl
  have hDc : va_D A [(nw, .inr (0, [.ref tt, .ref n1, .ref n2, .ref n3, .ref n4, .ref n5, .ref n6, .ref n7, .ref n8, .int 0, .int 0, .int 0]))] := hD.sub [1] (by decide) rfl
  have hFc := va_free (wc := [(nw, .inr (0, [.ref tt, .ref n1, .ref n2, .ref n3, .ref n4, .ref n5, .ref n6, .ref n7, .ref n8, .int 0, .int 0, .int 0]))]) hD hS hA [1] rfl
  refine va_calli (va_runV (As := [.int v0]) (rest := []) ⟨hx, hb, hml, hown, hts⟩ (c_X0_hasJudge_0 l G nw tt n1 n2 n3 n4 n5 n6 n7 n8 v0 s.heap.size) (cwV 1 hts gX5_bench_X0_hasJudge rfl rfl rfl (by decide +kernel) ⟨Nat.le_of_ble_eq_true rfl, Nat.le_of_ble_eq_true rfl⟩) ⟨gPre_blind, va_recv hK hPc (ci := 0) (q0 := 0) rfl rfl, fun U hU hW => gPre_of hU hW hK hPc hDc⟩ rfl rfl hl.1 rfl (lv_room (Nat.le_of_ble_eq_true rfl)) dX5_bench_5 ⟨Nat.le_of_ble_eq_true rfl, Nat.le_of_ble_eq_true rfl⟩) hS (fun q _ h => hFc q h) hFc (fun r_1 u t H locs ht hvm w_2 hB hz1 hk1 hS => ?_)
  obtain ⟨hP1, hK1, hD1⟩ := hB
  rw [ht] at hP1
  have hP1 : va_P G.1 vwCl [(nw, .inr (0, [.ref tt, .ref n1, .ref n2, .ref n3, .ref n4, .ref n5, .ref n6, .ref n7, .ref n8, .int 0, .int 0, .int 0]))] H := hP1
  have hD1 : va_D (va_A [(nw, .inr (0, [.ref tt, .ref n1, .ref n2, .ref n3, .ref n4, .ref n5, .ref n6, .ref n7, .ref n8, .int 0, .int 0, .int 0]))] s.heap.size) [(nw, .inr (0, [.ref tt, .ref n1, .ref n2, .ref n3, .ref n4, .ref n5, .ref n6, .ref n7, .ref n8, .int 0, .int 0, .int 0]))] := hD1
  have w_2 : r_1 = 0 := w_2
  obtain ⟨hP, hD⟩ := va_join (wr := [(h0, .inr (5, [.ref tt, .ref rd, .ref nw, .ref th, .ref kp, .ref sh, .ref tu, .int 0]))]) (w1 := [(nw, .inr (0, [.ref tt, .ref n1, .ref n2, .ref n3, .ref n4, .ref n5, .ref n6, .ref n7, .ref n8, .int 0, .int 0, .int 0]))]) hP hD [1] [0] rfl rfl (by decide) (by decide) hk1 hFc hP1 hD1
  have hP : va_P G.1 vwCl [(h0, .inr (5, [.ref tt, .ref rd, .ref nw, .ref th, .ref kp, .ref sh, .ref tu, .int 0])), (nw, .inr (0, [.ref tt, .ref n1, .ref n2, .ref n3, .ref n4, .ref n5, .ref n6, .ref n7, .ref n8, .int 0, .int 0, .int 0]))] H := hP
  have hD : va_D A [(h0, .inr (5, [.ref tt, .ref rd, .ref nw, .ref th, .ref kp, .ref sh, .ref tu, .int 0])), (nw, .inr (0, [.ref tt, .ref n1, .ref n2, .ref n3, .ref n4, .ref n5, .ref n6, .ref n7, .ref n8, .int 0, .int 0, .int 0]))] := hD
  have w_2 : r_1 = 0 := w_2
  subst w_2
  refine lv_if_ne (tgt := 14) hx hb dX5_bench_8 (by decide) (fun c_3 => ?_) (fun c_3 => ?_)
  · exact absurd (by decide) c_3
  refine lv_bipush (v := -5) hx hb dX5_bench_11 (by decide) ?_
  have hpost : (fun (r : Int32) (u : Unit) => match u with | _ => r = -5) (-5) () := pp_X5_bench_0_1 v0 v1 
  exact W.iret (v := (-5)) hx hb hr (fun t ht hW => ⟨⟨(-5), (), rfl, hpost, trivial⟩, hS.F ht⟩) hS.2.2 dX5_bench_13
theorem pp_X5_asks_0_1 (v0 : Int32) (v1 : Int32) (v2 : Int32) (n_5 : ¬ (0 ≤ v0 ∧ v0 ≤ 2)) : ((-2) : Int32) = -2 := by
  first
    | rfl
    | exact bz_pos (by (first | omega | (simp only [Int32.lt_iff_toInt_lt, Int32.le_iff_toInt_le, ← Int32.toInt_inj, Int32.reduceToInt] at * <;> omega)))
    | exact bz_neg (by (first | omega | (simp only [Int32.lt_iff_toInt_lt, Int32.le_iff_toInt_le, ← Int32.toInt_inj, Int32.reduceToInt] at * <;> omega)))
    | ((repeat' split) <;> first | rfl | assumption | (symm; assumption) | (exfalso; (first | omega | (simp only [Int32.lt_iff_toInt_lt, Int32.le_iff_toInt_le, ← Int32.toInt_inj, Int32.reduceToInt] at * <;> omega))))
theorem pp_X5_asks_0_2 (v0 : Int32) (v1 : Int32) (v2 : Int32) (p_4 : 0 ≤ v0 ∧ v0 ≤ 2) : ((-2) : Int32) = -2 := by
  first
    | rfl
    | exact bz_pos (by (first | omega | (simp only [Int32.lt_iff_toInt_lt, Int32.le_iff_toInt_le, ← Int32.toInt_inj, Int32.reduceToInt] at * <;> omega)))
    | exact bz_neg (by (first | omega | (simp only [Int32.lt_iff_toInt_lt, Int32.le_iff_toInt_le, ← Int32.toInt_inj, Int32.reduceToInt] at * <;> omega)))
    | ((repeat' split) <;> first | rfl | assumption | (symm; assumption) | (exfalso; (first | omega | (simp only [Int32.lt_iff_toInt_lt, Int32.le_iff_toInt_le, ← Int32.toInt_inj, Int32.reduceToInt] at * <;> omega))))
abbrev q_X5_asks_0 (G : gG) (h0 tt rd nw th kp sh tu n1 n2 n3 n4 n5 n6 n7 n8 : Nat) (v0 : Int32) (v1 : Int32) (v2 : Int32) (A : Nat → Prop) : Array Value → State → Outcome → State → Prop := va_Qi (fun (r : Int32) (u : Unit) => match u with | _ => r = -2) (fun (u : Unit) t => match u with | _ => True) A
set_option maxHeartbeats 4000000 in
set_option maxRecDepth 100000 in
theorem c_X5_asks_0 (l : Launch) (G : gG) (h0 tt rd nw th kp sh tu n1 n2 n3 n4 n5 n6 n7 n8 : Nat) (v0 : Int32) (v1 : Int32) (v2 : Int32) (sz : Nat) : Met l yX5_asks wsX5_asks ({ frames := 1, cells := 0, slots := 0, locals := 21 }) (gPre G [.ref h0, .int v0, .int v1, .int v2] [(h0, .inr (5, [.ref tt, .ref rd, .ref nw, .ref th, .ref kp, .ref sh, .ref tu, .int 0])), (nw, .inr (0, [.ref tt, .ref n1, .ref n2, .ref n3, .ref n4, .ref n5, .ref n6, .ref n7, .ref n8, .int 0, .int 0, .int 0]))] sz) (q_X5_asks_0 G h0 tt rd nw th kp sh tu n1 n2 n3 n4 n5 n6 n7 n8 v0 v1 v2 (va_A [(h0, .inr (5, [.ref tt, .ref rd, .ref nw, .ref th, .ref kp, .ref sh, .ref tu, .int 0])), (nw, .inr (0, [.ref tt, .ref n1, .ref n2, .ref n3, .ref n4, .ref n5, .ref n6, .ref n7, .ref n8, .int 0, .int 0, .int 0]))] sz)) 0 0 (va_A [(h0, .inr (5, [.ref tt, .ref rd, .ref nw, .ref th, .ref kp, .ref sh, .ref tu, .int 0])), (nw, .inr (0, [.ref tt, .ref n1, .ref n2, .ref n3, .ref n4, .ref n5, .ref n6, .ref n7, .ref n8, .int 0, .int 0, .int 0]))] sz) := by
  refine Met.ofW (cc := cX5_asks) (maxL := 4) (ret := (some .int)) (by decide) rfl ?_
  intro p e s m args below meth c s₁ B hml hv
  obtain ⟨rfl, hsz, hP, hK, hD0⟩ := hv
  have hx := B.exec
  have hb := B.bytes
  have hr := B.returns
  have hts := atoms_spec (ws := wsX5_asks) B.pre
  have hown : s.vm.findClass RX5 = some m.cls := findClass_of_methodNamed B.named
  have hlocks := B.notSynchronized
  subst hsz
  have hD := hD0.self (sz := s.heap.size)
  generalize hAe : va_A [(h0, .inr (5, [.ref tt, .ref rd, .ref nw, .ref th, .ref kp, .ref sh, .ref tu, .int 0])), (nw, .inr (0, [.ref tt, .ref n1, .ref n2, .ref n3, .ref n4, .ref n5, .ref n6, .ref n7, .ref n8, .int 0, .int 0, .int 0]))] s.heap.size = A at hD ⊢
  have hA : ∀ q : Nat, s.heap.size ≤ q → A q := fun q h => by rw [← hAe]; exact Or.inr h
  have hS : va_S A s.heap s.heap [] := va_S.rf
  have hP : va_P G.1 vwCl [(h0, .inr (5, [.ref tt, .ref rd, .ref nw, .ref th, .ref kp, .ref sh, .ref tu, .int 0])), (nw, .inr (0, [.ref tt, .ref n1, .ref n2, .ref n3, .ref n4, .ref n5, .ref n6, .ref n7, .ref n8, .int 0, .int 0, .int 0]))] s.heap := hP
  have hD : va_D A [(h0, .inr (5, [.ref tt, .ref rd, .ref nw, .ref th, .ref kp, .ref sh, .ref tu, .int 0])), (nw, .inr (0, [.ref tt, .ref n1, .ref n2, .ref n3, .ref n4, .ref n5, .ref n6, .ref n7, .ref n8, .int 0, .int 0, .int 0]))] := hD
  have hl := lv_entry ([.ref h0, .int v0, .int v1, .int v2]) (n := 4) (Nat.le_of_ble_eq_true rfl)
  rw [lg_entry_eq]
  generalize (lg_sl ([.ref h0, .int v0, .int v1, .int v2]) ++ List.replicate (4 - (lg_sl ([.ref h0, .int v0, .int v1, .int v2])).length) Slot.unset).toArray = ls at hl ⊢
  have hl : lv_has ls 4 [(0, .ref h0), (1, .int v0), (2, .int v1), (3, .int v2)] := hl
  have kf28 := hts (.fieldLink RX5 28 "PebbleInShoe" "now" "LPebbleInShoe$Court;") (by decide +kernel)
  have hiX5 := (by decide +kernel : ∀ w ∈ wsX50, w ∈ wsX5_asks)
  refine lv_iload_n hx hb dX5_asks_0 rfl (lv_at hl 1 rfl) ?_
  refine lv_iconst (v := 2) hx hb dX5_asks_1 (by decide) ?_
  have hPc : va_P G.1 vwCl [] s.heap := hP.sub [] rfl
  have hDc : va_D A [] := hD.sub [] (by decide) rfl
  have hFc := va_free (wc := []) hD hS hA [] rfl
  refine va_calli (va_runS (As := [.int v0, .int 2]) (rest := []) ⟨hx, hb, hml, hown, hts⟩ (c_X5_within l G v0 2 s.heap.size) (va_cwS 2 hts gX5_asks_X5_within rfl rfl rfl (by decide +kernel) ⟨Nat.le_of_ble_eq_true rfl, Nat.le_of_ble_eq_true rfl⟩) ⟨gPre_blind, fun U hU hW => gPre_of hU hW hK hPc hDc⟩ rfl rfl hl.1 rfl (lv_room (Nat.le_of_ble_eq_true rfl)) dX5_asks_2 ⟨Nat.le_of_ble_eq_true rfl, Nat.le_of_ble_eq_true rfl⟩) hS (fun q _ h => hFc q h) hFc (fun r_1 u t H locs ht hvm w_2 hB hz1 hk1 hS => ?_)
  obtain ⟨hP1, hK1, hD1⟩ := hB
  rw [ht] at hP1
  have hP1 : va_P G.1 vwCl [] H := hP1
  have hD1 : va_D (va_A [] s.heap.size) [] := hD1
  have w_2 : r_1 = bz (decide (0 ≤ v0 ∧ v0 ≤ 2)) := w_2
  obtain ⟨hP, hD⟩ := va_join (wr := [(h0, .inr (5, [.ref tt, .ref rd, .ref nw, .ref th, .ref kp, .ref sh, .ref tu, .int 0])), (nw, .inr (0, [.ref tt, .ref n1, .ref n2, .ref n3, .ref n4, .ref n5, .ref n6, .ref n7, .ref n8, .int 0, .int 0, .int 0]))]) (w1 := []) hP hD [] [0, 1] rfl rfl (by decide) (by decide) hk1 hFc hP1 hD1
  have hP : va_P G.1 vwCl [(h0, .inr (5, [.ref tt, .ref rd, .ref nw, .ref th, .ref kp, .ref sh, .ref tu, .int 0])), (nw, .inr (0, [.ref tt, .ref n1, .ref n2, .ref n3, .ref n4, .ref n5, .ref n6, .ref n7, .ref n8, .int 0, .int 0, .int 0]))] H := hP
  have hD : va_D A [(h0, .inr (5, [.ref tt, .ref rd, .ref nw, .ref th, .ref kp, .ref sh, .ref tu, .int 0])), (nw, .inr (0, [.ref tt, .ref n1, .ref n2, .ref n3, .ref n4, .ref n5, .ref n6, .ref n7, .ref n8, .int 0, .int 0, .int 0]))] := hD
  refine lv_if_eq (tgt := 30) hx hb dX5_asks_5 (by decide) (fun c_3 => ?_) (fun c_3 => ?_)
  · skip
    have n_5 : ¬ (0 ≤ v0 ∧ v0 ≤ 2) := of_decide_eq_false (bz_eq w_2 c_3)
    refine lv_bipush (v := -2) hx hb dX5_asks_30 (by decide) ?_
    have hpost : (fun (r : Int32) (u : Unit) => match u with | _ => r = -2) (-2) () := pp_X5_asks_0_1 v0 v1 v2 n_5
    exact W.iret (v := (-2)) hx hb hr (fun t ht hW => ⟨⟨(-2), (), rfl, hpost, trivial⟩, hS.F ht⟩) hS.2.2 dX5_asks_32
  · skip
    have p_4 : 0 ≤ v0 ∧ v0 ≤ 2 := of_decide_eq_true (bz_ne w_2 c_3)
    refine lv_aload_n hx hb dX5_asks_8 rfl (lv_at hl 0 rfl) ?_
    refine va_get (D := G.1) (ci := 5) (v := .ref nw) (C := RX5) (T := TX5) (N := 8) hx hb hts hiX5 hown hK hP 0 rfl rfl 2 (by decide) kf28 (fun _ h9 => h9) rfl dX5_asks_9 ?_
    refine lv_iload_n hx hb dX5_asks_12 rfl (lv_at hl 2 rfl) ?_
    have hPc : va_P G.1 vwCl [(nw, .inr (0, [.ref tt, .ref n1, .ref n2, .ref n3, .ref n4, .ref n5, .ref n6, .ref n7, .ref n8, .int 0, .int 0, .int 0]))] H := hP.sub [1] rfl
    have hDc : va_D A [(nw, .inr (0, [.ref tt, .ref n1, .ref n2, .ref n3, .ref n4, .ref n5, .ref n6, .ref n7, .ref n8, .int 0, .int 0, .int 0]))] := hD.sub [1] (by decide) rfl
    have hFc := va_free (wc := [(nw, .inr (0, [.ref tt, .ref n1, .ref n2, .ref n3, .ref n4, .ref n5, .ref n6, .ref n7, .ref n8, .int 0, .int 0, .int 0]))]) hD hS hA [1] rfl
    refine va_calli (va_runV (As := [.int v1]) (rest := []) ⟨hx, hb, hml, hown, hts⟩ (c_X0_hasJudge_0 l G nw tt n1 n2 n3 n4 n5 n6 n7 n8 v1 H.size) (cwV 1 hts gX5_asks_X0_hasJudge rfl rfl rfl (by decide +kernel) ⟨Nat.le_of_ble_eq_true rfl, Nat.le_of_ble_eq_true rfl⟩) ⟨gPre_blind, va_recv hK hPc (ci := 0) (q0 := 0) rfl rfl, fun U hU hW => gPre_of hU hW hK hPc hDc⟩ rfl rfl hl.1 rfl (lv_room (Nat.le_of_ble_eq_true rfl)) dX5_asks_13 ⟨Nat.le_of_ble_eq_true rfl, Nat.le_of_ble_eq_true rfl⟩) hS (fun q _ h => hFc q h) hFc (fun r_6 u t H locs ht hvm w_7 hB hz1 hk1 hS => ?_)
    obtain ⟨hP1, hK1, hD1⟩ := hB
    rw [ht] at hP1
    have hP1 : va_P G.1 vwCl [(nw, .inr (0, [.ref tt, .ref n1, .ref n2, .ref n3, .ref n4, .ref n5, .ref n6, .ref n7, .ref n8, .int 0, .int 0, .int 0]))] H := hP1
    have hD1 : va_D (va_A [(nw, .inr (0, [.ref tt, .ref n1, .ref n2, .ref n3, .ref n4, .ref n5, .ref n6, .ref n7, .ref n8, .int 0, .int 0, .int 0]))] _) [(nw, .inr (0, [.ref tt, .ref n1, .ref n2, .ref n3, .ref n4, .ref n5, .ref n6, .ref n7, .ref n8, .int 0, .int 0, .int 0]))] := hD1
    have w_7 : r_6 = 0 := w_7
    obtain ⟨hP, hD⟩ := va_join (wr := [(h0, .inr (5, [.ref tt, .ref rd, .ref nw, .ref th, .ref kp, .ref sh, .ref tu, .int 0]))]) (w1 := [(nw, .inr (0, [.ref tt, .ref n1, .ref n2, .ref n3, .ref n4, .ref n5, .ref n6, .ref n7, .ref n8, .int 0, .int 0, .int 0]))]) hP hD [1] [0] rfl rfl (by decide) (by decide) hk1 hFc hP1 hD1
    have hP : va_P G.1 vwCl [(h0, .inr (5, [.ref tt, .ref rd, .ref nw, .ref th, .ref kp, .ref sh, .ref tu, .int 0])), (nw, .inr (0, [.ref tt, .ref n1, .ref n2, .ref n3, .ref n4, .ref n5, .ref n6, .ref n7, .ref n8, .int 0, .int 0, .int 0]))] H := hP
    have hD : va_D A [(h0, .inr (5, [.ref tt, .ref rd, .ref nw, .ref th, .ref kp, .ref sh, .ref tu, .int 0])), (nw, .inr (0, [.ref tt, .ref n1, .ref n2, .ref n3, .ref n4, .ref n5, .ref n6, .ref n7, .ref n8, .int 0, .int 0, .int 0]))] := hD
    have w_7 : r_6 = 0 := w_7
    subst w_7
    refine lv_if_eq (tgt := 30) hx hb dX5_asks_16 (by decide) (fun c_8 => ?_) (fun c_8 => ?_)
    rotate_left
    · exact absurd (by decide) c_8
    refine lv_bipush (v := -2) hx hb dX5_asks_30 (by decide) ?_
    have hpost : (fun (r : Int32) (u : Unit) => match u with | _ => r = -2) (-2) () := pp_X5_asks_0_2 v0 v1 v2 p_4
    exact W.iret (v := (-2)) hx hb hr (fun t ht hW => ⟨⟨(-2), (), rfl, hpost, trivial⟩, hS.F ht⟩) hS.2.2 dX5_asks_32
theorem pp_X5_put_0_1 (v0 : Int32) (v1 : Int32) (v2 : Int32) : ((-5) : Int32) = -5 := by
  first
    | rfl
    | exact bz_pos (by (first | omega | (simp only [Int32.lt_iff_toInt_lt, Int32.le_iff_toInt_le, ← Int32.toInt_inj, Int32.reduceToInt] at * <;> omega)))
    | exact bz_neg (by (first | omega | (simp only [Int32.lt_iff_toInt_lt, Int32.le_iff_toInt_le, ← Int32.toInt_inj, Int32.reduceToInt] at * <;> omega)))
    | ((repeat' split) <;> first | rfl | assumption | (symm; assumption) | (exfalso; (first | omega | (simp only [Int32.lt_iff_toInt_lt, Int32.le_iff_toInt_le, ← Int32.toInt_inj, Int32.reduceToInt] at * <;> omega))))
abbrev q_X5_put_0 (G : gG) (h0 tt rd nw th kp sh tu n1 n2 n3 n4 n5 n6 n7 n8 : Nat) (v0 : Int32) (v1 : Int32) (v2 : Int32) (A : Nat → Prop) : Array Value → State → Outcome → State → Prop := va_Qi (fun (r : Int32) (u : Unit) => match u with | _ => r = -5) (fun (u : Unit) t => match u with | _ => True) A
set_option maxHeartbeats 4000000 in
set_option maxRecDepth 100000 in
theorem c_X5_put_0 (l : Launch) (G : gG) (h0 tt rd nw th kp sh tu n1 n2 n3 n4 n5 n6 n7 n8 : Nat) (v0 : Int32) (v1 : Int32) (v2 : Int32) (sz : Nat) : Met l yX5_put wsX5_put ({ frames := 1, cells := 0, slots := 0, locals := 21 }) (gPre G [.ref h0, .int v0, .int v1, .int v2] [(h0, .inr (5, [.ref tt, .ref rd, .ref nw, .ref th, .ref kp, .ref sh, .ref tu, .int 0])), (nw, .inr (0, [.ref tt, .ref n1, .ref n2, .ref n3, .ref n4, .ref n5, .ref n6, .ref n7, .ref n8, .int 0, .int 0, .int 0]))] sz) (q_X5_put_0 G h0 tt rd nw th kp sh tu n1 n2 n3 n4 n5 n6 n7 n8 v0 v1 v2 (va_A [(h0, .inr (5, [.ref tt, .ref rd, .ref nw, .ref th, .ref kp, .ref sh, .ref tu, .int 0])), (nw, .inr (0, [.ref tt, .ref n1, .ref n2, .ref n3, .ref n4, .ref n5, .ref n6, .ref n7, .ref n8, .int 0, .int 0, .int 0]))] sz)) 0 0 (va_A [(h0, .inr (5, [.ref tt, .ref rd, .ref nw, .ref th, .ref kp, .ref sh, .ref tu, .int 0])), (nw, .inr (0, [.ref tt, .ref n1, .ref n2, .ref n3, .ref n4, .ref n5, .ref n6, .ref n7, .ref n8, .int 0, .int 0, .int 0]))] sz) := by
  refine Met.ofW (cc := cX5_put) (maxL := 6) (ret := (some .int)) (by decide) rfl ?_
  intro p e s m args below meth c s₁ B hml hv
  obtain ⟨rfl, hsz, hP, hK, hD0⟩ := hv
  have hx := B.exec
  have hb := B.bytes
  have hr := B.returns
  have hts := atoms_spec (ws := wsX5_put) B.pre
  have hown : s.vm.findClass RX5 = some m.cls := findClass_of_methodNamed B.named
  have hlocks := B.notSynchronized
  subst hsz
  have hD := hD0.self (sz := s.heap.size)
  generalize hAe : va_A [(h0, .inr (5, [.ref tt, .ref rd, .ref nw, .ref th, .ref kp, .ref sh, .ref tu, .int 0])), (nw, .inr (0, [.ref tt, .ref n1, .ref n2, .ref n3, .ref n4, .ref n5, .ref n6, .ref n7, .ref n8, .int 0, .int 0, .int 0]))] s.heap.size = A at hD ⊢
  have hA : ∀ q : Nat, s.heap.size ≤ q → A q := fun q h => by rw [← hAe]; exact Or.inr h
  have hS : va_S A s.heap s.heap [] := va_S.rf
  have hP : va_P G.1 vwCl [(h0, .inr (5, [.ref tt, .ref rd, .ref nw, .ref th, .ref kp, .ref sh, .ref tu, .int 0])), (nw, .inr (0, [.ref tt, .ref n1, .ref n2, .ref n3, .ref n4, .ref n5, .ref n6, .ref n7, .ref n8, .int 0, .int 0, .int 0]))] s.heap := hP
  have hD : va_D A [(h0, .inr (5, [.ref tt, .ref rd, .ref nw, .ref th, .ref kp, .ref sh, .ref tu, .int 0])), (nw, .inr (0, [.ref tt, .ref n1, .ref n2, .ref n3, .ref n4, .ref n5, .ref n6, .ref n7, .ref n8, .int 0, .int 0, .int 0]))] := hD
  have hl := lv_entry ([.ref h0, .int v0, .int v1, .int v2]) (n := 6) (Nat.le_of_ble_eq_true rfl)
  rw [lg_entry_eq]
  generalize (lg_sl ([.ref h0, .int v0, .int v1, .int v2]) ++ List.replicate (6 - (lg_sl ([.ref h0, .int v0, .int v1, .int v2])).length) Slot.unset).toArray = ls at hl ⊢
  have hl : lv_has ls 6 [(0, .ref h0), (1, .int v0), (2, .int v1), (3, .int v2)] := hl
  have kf28 := hts (.fieldLink RX5 28 "PebbleInShoe" "now" "LPebbleInShoe$Court;") (by decide +kernel)
  have hiX5 := (by decide +kernel : ∀ w ∈ wsX50, w ∈ wsX5_put)
  refine lv_aload_n hx hb dX5_put_0 rfl (lv_at hl 0 rfl) ?_
  refine va_get (D := G.1) (ci := 5) (v := .ref nw) (C := RX5) (T := TX5) (N := 8) hx hb hts hiX5 hown hK hP 0 rfl rfl 2 (by decide) kf28 (fun _ h9 => h9) rfl dX5_put_1 ?_
  refine lv_iload_n hx hb dX5_put_4 rfl (lv_at hl 1 rfl) ?_
  have hPc : va_P G.1 vwCl [(nw, .inr (0, [.ref tt, .ref n1, .ref n2, .ref n3, .ref n4, .ref n5, .ref n6, .ref n7, .ref n8, .int 0, .int 0, .int 0]))] s.heap := hP.sub [1] rfl
  have hDc : va_D A [(nw, .inr (0, [.ref tt, .ref n1, .ref n2, .ref n3, .ref n4, .ref n5, .ref n6, .ref n7, .ref n8, .int 0, .int 0, .int 0]))] := hD.sub [1] (by decide) rfl
  have hFc := va_free (wc := [(nw, .inr (0, [.ref tt, .ref n1, .ref n2, .ref n3, .ref n4, .ref n5, .ref n6, .ref n7, .ref n8, .int 0, .int 0, .int 0]))]) hD hS hA [1] rfl
  refine va_calli (va_runV (As := [.int v0]) (rest := []) ⟨hx, hb, hml, hown, hts⟩ (c_X0_hasPebble_0 l G nw tt n1 n2 n3 n4 n5 n6 n7 n8 v0 s.heap.size) (cwV 1 hts gX5_put_X0_hasPebble rfl rfl rfl (by decide +kernel) ⟨Nat.le_of_ble_eq_true rfl, Nat.le_of_ble_eq_true rfl⟩) ⟨gPre_blind, va_recv hK hPc (ci := 0) (q0 := 0) rfl rfl, fun U hU hW => gPre_of hU hW hK hPc hDc⟩ rfl rfl hl.1 rfl (lv_room (Nat.le_of_ble_eq_true rfl)) dX5_put_5 ⟨Nat.le_of_ble_eq_true rfl, Nat.le_of_ble_eq_true rfl⟩) hS (fun q _ h => hFc q h) hFc (fun r_1 u t H locs ht hvm w_2 hB hz1 hk1 hS => ?_)
  obtain ⟨hP1, hK1, hD1⟩ := hB
  rw [ht] at hP1
  have hP1 : va_P G.1 vwCl [(nw, .inr (0, [.ref tt, .ref n1, .ref n2, .ref n3, .ref n4, .ref n5, .ref n6, .ref n7, .ref n8, .int 0, .int 0, .int 0]))] H := hP1
  have hD1 : va_D (va_A [(nw, .inr (0, [.ref tt, .ref n1, .ref n2, .ref n3, .ref n4, .ref n5, .ref n6, .ref n7, .ref n8, .int 0, .int 0, .int 0]))] s.heap.size) [(nw, .inr (0, [.ref tt, .ref n1, .ref n2, .ref n3, .ref n4, .ref n5, .ref n6, .ref n7, .ref n8, .int 0, .int 0, .int 0]))] := hD1
  have w_2 : r_1 = 0 := w_2
  obtain ⟨hP, hD⟩ := va_join (wr := [(h0, .inr (5, [.ref tt, .ref rd, .ref nw, .ref th, .ref kp, .ref sh, .ref tu, .int 0]))]) (w1 := [(nw, .inr (0, [.ref tt, .ref n1, .ref n2, .ref n3, .ref n4, .ref n5, .ref n6, .ref n7, .ref n8, .int 0, .int 0, .int 0]))]) hP hD [1] [0] rfl rfl (by decide) (by decide) hk1 hFc hP1 hD1
  have hP : va_P G.1 vwCl [(h0, .inr (5, [.ref tt, .ref rd, .ref nw, .ref th, .ref kp, .ref sh, .ref tu, .int 0])), (nw, .inr (0, [.ref tt, .ref n1, .ref n2, .ref n3, .ref n4, .ref n5, .ref n6, .ref n7, .ref n8, .int 0, .int 0, .int 0]))] H := hP
  have hD : va_D A [(h0, .inr (5, [.ref tt, .ref rd, .ref nw, .ref th, .ref kp, .ref sh, .ref tu, .int 0])), (nw, .inr (0, [.ref tt, .ref n1, .ref n2, .ref n3, .ref n4, .ref n5, .ref n6, .ref n7, .ref n8, .int 0, .int 0, .int 0]))] := hD
  have w_2 : r_1 = 0 := w_2
  subst w_2
  refine lv_if_ne (tgt := 14) hx hb dX5_put_8 (by decide) (fun c_3 => ?_) (fun c_3 => ?_)
  · exact absurd (by decide) c_3
  refine lv_bipush (v := -5) hx hb dX5_put_11 (by decide) ?_
  have hpost : (fun (r : Int32) (u : Unit) => match u with | _ => r = -5) (-5) () := pp_X5_put_0_1 v0 v1 v2 
  exact W.iret (v := (-5)) hx hb hr (fun t ht hW => ⟨⟨(-5), (), rfl, hpost, trivial⟩, hS.F ht⟩) hS.2.2 dX5_put_13
theorem pp_X5_told_0_1 (v0 : Int32) (v1 : Int32) : ((-5) : Int32) = -5 := by
  first
    | rfl
    | exact bz_pos (by (first | omega | (simp only [Int32.lt_iff_toInt_lt, Int32.le_iff_toInt_le, ← Int32.toInt_inj, Int32.reduceToInt] at * <;> omega)))
    | exact bz_neg (by (first | omega | (simp only [Int32.lt_iff_toInt_lt, Int32.le_iff_toInt_le, ← Int32.toInt_inj, Int32.reduceToInt] at * <;> omega)))
    | ((repeat' split) <;> first | rfl | assumption | (symm; assumption) | (exfalso; (first | omega | (simp only [Int32.lt_iff_toInt_lt, Int32.le_iff_toInt_le, ← Int32.toInt_inj, Int32.reduceToInt] at * <;> omega))))
abbrev q_X5_told_0 (G : gG) (h0 tt rd nw th kp sh tu n1 n2 n3 n4 n5 n6 n7 n8 : Nat) (v0 : Int32) (v1 : Int32) (A : Nat → Prop) : Array Value → State → Outcome → State → Prop := va_Qi (fun (r : Int32) (u : Unit) => match u with | _ => r = -5) (fun (u : Unit) t => match u with | _ => True) A
set_option maxHeartbeats 4000000 in
set_option maxRecDepth 100000 in
theorem c_X5_told_0 (l : Launch) (G : gG) (h0 tt rd nw th kp sh tu n1 n2 n3 n4 n5 n6 n7 n8 : Nat) (v0 : Int32) (v1 : Int32) (sz : Nat) : Met l yX5_told wsX5_told ({ frames := 1, cells := 0, slots := 0, locals := 21 }) (gPre G [.ref h0, .int v0, .int v1] [(h0, .inr (5, [.ref tt, .ref rd, .ref nw, .ref th, .ref kp, .ref sh, .ref tu, .int 0])), (nw, .inr (0, [.ref tt, .ref n1, .ref n2, .ref n3, .ref n4, .ref n5, .ref n6, .ref n7, .ref n8, .int 0, .int 0, .int 0]))] sz) (q_X5_told_0 G h0 tt rd nw th kp sh tu n1 n2 n3 n4 n5 n6 n7 n8 v0 v1 (va_A [(h0, .inr (5, [.ref tt, .ref rd, .ref nw, .ref th, .ref kp, .ref sh, .ref tu, .int 0])), (nw, .inr (0, [.ref tt, .ref n1, .ref n2, .ref n3, .ref n4, .ref n5, .ref n6, .ref n7, .ref n8, .int 0, .int 0, .int 0]))] sz)) 0 0 (va_A [(h0, .inr (5, [.ref tt, .ref rd, .ref nw, .ref th, .ref kp, .ref sh, .ref tu, .int 0])), (nw, .inr (0, [.ref tt, .ref n1, .ref n2, .ref n3, .ref n4, .ref n5, .ref n6, .ref n7, .ref n8, .int 0, .int 0, .int 0]))] sz) := by
  refine Met.ofW (cc := cX5_told) (maxL := 3) (ret := (some .int)) (by decide) rfl ?_
  intro p e s m args below meth c s₁ B hml hv
  obtain ⟨rfl, hsz, hP, hK, hD0⟩ := hv
  have hx := B.exec
  have hb := B.bytes
  have hr := B.returns
  have hts := atoms_spec (ws := wsX5_told) B.pre
  have hown : s.vm.findClass RX5 = some m.cls := findClass_of_methodNamed B.named
  have hlocks := B.notSynchronized
  subst hsz
  have hD := hD0.self (sz := s.heap.size)
  generalize hAe : va_A [(h0, .inr (5, [.ref tt, .ref rd, .ref nw, .ref th, .ref kp, .ref sh, .ref tu, .int 0])), (nw, .inr (0, [.ref tt, .ref n1, .ref n2, .ref n3, .ref n4, .ref n5, .ref n6, .ref n7, .ref n8, .int 0, .int 0, .int 0]))] s.heap.size = A at hD ⊢
  have hA : ∀ q : Nat, s.heap.size ≤ q → A q := fun q h => by rw [← hAe]; exact Or.inr h
  have hS : va_S A s.heap s.heap [] := va_S.rf
  have hP : va_P G.1 vwCl [(h0, .inr (5, [.ref tt, .ref rd, .ref nw, .ref th, .ref kp, .ref sh, .ref tu, .int 0])), (nw, .inr (0, [.ref tt, .ref n1, .ref n2, .ref n3, .ref n4, .ref n5, .ref n6, .ref n7, .ref n8, .int 0, .int 0, .int 0]))] s.heap := hP
  have hD : va_D A [(h0, .inr (5, [.ref tt, .ref rd, .ref nw, .ref th, .ref kp, .ref sh, .ref tu, .int 0])), (nw, .inr (0, [.ref tt, .ref n1, .ref n2, .ref n3, .ref n4, .ref n5, .ref n6, .ref n7, .ref n8, .int 0, .int 0, .int 0]))] := hD
  have hl := lv_entry ([.ref h0, .int v0, .int v1]) (n := 3) (Nat.le_of_ble_eq_true rfl)
  rw [lg_entry_eq]
  generalize (lg_sl ([.ref h0, .int v0, .int v1]) ++ List.replicate (3 - (lg_sl ([.ref h0, .int v0, .int v1])).length) Slot.unset).toArray = ls at hl ⊢
  have hl : lv_has ls 3 [(0, .ref h0), (1, .int v0), (2, .int v1)] := hl
  have kf28 := hts (.fieldLink RX5 28 "PebbleInShoe" "now" "LPebbleInShoe$Court;") (by decide +kernel)
  have hiX5 := (by decide +kernel : ∀ w ∈ wsX50, w ∈ wsX5_told)
  refine lv_aload_n hx hb dX5_told_0 rfl (lv_at hl 0 rfl) ?_
  refine va_get (D := G.1) (ci := 5) (v := .ref nw) (C := RX5) (T := TX5) (N := 8) hx hb hts hiX5 hown hK hP 0 rfl rfl 2 (by decide) kf28 (fun _ h9 => h9) rfl dX5_told_1 ?_
  refine lv_iload_n hx hb dX5_told_4 rfl (lv_at hl 1 rfl) ?_
  have hPc : va_P G.1 vwCl [(nw, .inr (0, [.ref tt, .ref n1, .ref n2, .ref n3, .ref n4, .ref n5, .ref n6, .ref n7, .ref n8, .int 0, .int 0, .int 0]))] s.heap := hP.sub [1] rfl
  have hDc : va_D A [(nw, .inr (0, [.ref tt, .ref n1, .ref n2, .ref n3, .ref n4, .ref n5, .ref n6, .ref n7, .ref n8, .int 0, .int 0, .int 0]))] := hD.sub [1] (by decide) rfl
  have hFc := va_free (wc := [(nw, .inr (0, [.ref tt, .ref n1, .ref n2, .ref n3, .ref n4, .ref n5, .ref n6, .ref n7, .ref n8, .int 0, .int 0, .int 0]))]) hD hS hA [1] rfl
  refine va_calli (va_runV (As := [.int v0]) (rest := []) ⟨hx, hb, hml, hown, hts⟩ (c_X0_hasPebble_0 l G nw tt n1 n2 n3 n4 n5 n6 n7 n8 v0 s.heap.size) (cwV 1 hts gX5_told_X0_hasPebble rfl rfl rfl (by decide +kernel) ⟨Nat.le_of_ble_eq_true rfl, Nat.le_of_ble_eq_true rfl⟩) ⟨gPre_blind, va_recv hK hPc (ci := 0) (q0 := 0) rfl rfl, fun U hU hW => gPre_of hU hW hK hPc hDc⟩ rfl rfl hl.1 rfl (lv_room (Nat.le_of_ble_eq_true rfl)) dX5_told_5 ⟨Nat.le_of_ble_eq_true rfl, Nat.le_of_ble_eq_true rfl⟩) hS (fun q _ h => hFc q h) hFc (fun r_1 u t H locs ht hvm w_2 hB hz1 hk1 hS => ?_)
  obtain ⟨hP1, hK1, hD1⟩ := hB
  rw [ht] at hP1
  have hP1 : va_P G.1 vwCl [(nw, .inr (0, [.ref tt, .ref n1, .ref n2, .ref n3, .ref n4, .ref n5, .ref n6, .ref n7, .ref n8, .int 0, .int 0, .int 0]))] H := hP1
  have hD1 : va_D (va_A [(nw, .inr (0, [.ref tt, .ref n1, .ref n2, .ref n3, .ref n4, .ref n5, .ref n6, .ref n7, .ref n8, .int 0, .int 0, .int 0]))] s.heap.size) [(nw, .inr (0, [.ref tt, .ref n1, .ref n2, .ref n3, .ref n4, .ref n5, .ref n6, .ref n7, .ref n8, .int 0, .int 0, .int 0]))] := hD1
  have w_2 : r_1 = 0 := w_2
  obtain ⟨hP, hD⟩ := va_join (wr := [(h0, .inr (5, [.ref tt, .ref rd, .ref nw, .ref th, .ref kp, .ref sh, .ref tu, .int 0]))]) (w1 := [(nw, .inr (0, [.ref tt, .ref n1, .ref n2, .ref n3, .ref n4, .ref n5, .ref n6, .ref n7, .ref n8, .int 0, .int 0, .int 0]))]) hP hD [1] [0] rfl rfl (by decide) (by decide) hk1 hFc hP1 hD1
  have hP : va_P G.1 vwCl [(h0, .inr (5, [.ref tt, .ref rd, .ref nw, .ref th, .ref kp, .ref sh, .ref tu, .int 0])), (nw, .inr (0, [.ref tt, .ref n1, .ref n2, .ref n3, .ref n4, .ref n5, .ref n6, .ref n7, .ref n8, .int 0, .int 0, .int 0]))] H := hP
  have hD : va_D A [(h0, .inr (5, [.ref tt, .ref rd, .ref nw, .ref th, .ref kp, .ref sh, .ref tu, .int 0])), (nw, .inr (0, [.ref tt, .ref n1, .ref n2, .ref n3, .ref n4, .ref n5, .ref n6, .ref n7, .ref n8, .int 0, .int 0, .int 0]))] := hD
  have w_2 : r_1 = 0 := w_2
  subst w_2
  refine lv_if_ne (tgt := 14) hx hb dX5_told_8 (by decide) (fun c_3 => ?_) (fun c_3 => ?_)
  · exact absurd (by decide) c_3
  refine lv_bipush (v := -5) hx hb dX5_told_11 (by decide) ?_
  have hpost : (fun (r : Int32) (u : Unit) => match u with | _ => r = -5) (-5) () := pp_X5_told_0_1 v0 v1 
  exact W.iret (v := (-5)) hx hb hr (fun t ht hW => ⟨⟨(-5), (), rfl, hpost, trivial⟩, hS.F ht⟩) hS.2.2 dX5_told_13
theorem pp_X5_walk_0_1 (v0 : Int32) (v1 : Int32) (v2 : Int32) : ((-5) : Int32) = -5 := by
  first
    | rfl
    | exact bz_pos (by (first | omega | (simp only [Int32.lt_iff_toInt_lt, Int32.le_iff_toInt_le, ← Int32.toInt_inj, Int32.reduceToInt] at * <;> omega)))
    | exact bz_neg (by (first | omega | (simp only [Int32.lt_iff_toInt_lt, Int32.le_iff_toInt_le, ← Int32.toInt_inj, Int32.reduceToInt] at * <;> omega)))
    | ((repeat' split) <;> first | rfl | assumption | (symm; assumption) | (exfalso; (first | omega | (simp only [Int32.lt_iff_toInt_lt, Int32.le_iff_toInt_le, ← Int32.toInt_inj, Int32.reduceToInt] at * <;> omega))))
abbrev q_X5_walk_0 (G : gG) (h0 tt rd nw th kp sh tu n1 n2 n3 n4 n5 n6 n7 n8 : Nat) (v0 : Int32) (v1 : Int32) (v2 : Int32) (A : Nat → Prop) : Array Value → State → Outcome → State → Prop := va_Qi (fun (r : Int32) (u : Unit) => match u with | _ => r = -5) (fun (u : Unit) t => match u with | _ => True) A
set_option maxHeartbeats 4000000 in
set_option maxRecDepth 100000 in
theorem c_X5_walk_0 (l : Launch) (G : gG) (h0 tt rd nw th kp sh tu n1 n2 n3 n4 n5 n6 n7 n8 : Nat) (v0 : Int32) (v1 : Int32) (v2 : Int32) (sz : Nat) : Met l yX5_walk wsX5_walk ({ frames := 2, cells := 0, slots := 0, locals := 43 }) (gPre G [.ref h0, .int v0, .int v1, .int v2] [(h0, .inr (5, [.ref tt, .ref rd, .ref nw, .ref th, .ref kp, .ref sh, .ref tu, .int 0])), (nw, .inr (0, [.ref tt, .ref n1, .ref n2, .ref n3, .ref n4, .ref n5, .ref n6, .ref n7, .ref n8, .int 0, .int 0, .int 0]))] sz) (q_X5_walk_0 G h0 tt rd nw th kp sh tu n1 n2 n3 n4 n5 n6 n7 n8 v0 v1 v2 (va_A [(h0, .inr (5, [.ref tt, .ref rd, .ref nw, .ref th, .ref kp, .ref sh, .ref tu, .int 0])), (nw, .inr (0, [.ref tt, .ref n1, .ref n2, .ref n3, .ref n4, .ref n5, .ref n6, .ref n7, .ref n8, .int 0, .int 0, .int 0]))] sz)) 0 0 (va_A [(h0, .inr (5, [.ref tt, .ref rd, .ref nw, .ref th, .ref kp, .ref sh, .ref tu, .int 0])), (nw, .inr (0, [.ref tt, .ref n1, .ref n2, .ref n3, .ref n4, .ref n5, .ref n6, .ref n7, .ref n8, .int 0, .int 0, .int 0]))] sz) := by
  refine Met.ofW (cc := cX5_walk) (maxL := 4) (ret := (some .int)) (by decide) rfl ?_
  intro p e s m args below meth c s₁ B hml hv
  obtain ⟨rfl, hsz, hP, hK, hD0⟩ := hv
  have hx := B.exec
  have hb := B.bytes
  have hr := B.returns
  have hts := atoms_spec (ws := wsX5_walk) B.pre
  have hown : s.vm.findClass RX5 = some m.cls := findClass_of_methodNamed B.named
  have hlocks := B.notSynchronized
  subst hsz
  have hD := hD0.self (sz := s.heap.size)
  generalize hAe : va_A [(h0, .inr (5, [.ref tt, .ref rd, .ref nw, .ref th, .ref kp, .ref sh, .ref tu, .int 0])), (nw, .inr (0, [.ref tt, .ref n1, .ref n2, .ref n3, .ref n4, .ref n5, .ref n6, .ref n7, .ref n8, .int 0, .int 0, .int 0]))] s.heap.size = A at hD ⊢
  have hA : ∀ q : Nat, s.heap.size ≤ q → A q := fun q h => by rw [← hAe]; exact Or.inr h
  have hS : va_S A s.heap s.heap [] := va_S.rf
  have hP : va_P G.1 vwCl [(h0, .inr (5, [.ref tt, .ref rd, .ref nw, .ref th, .ref kp, .ref sh, .ref tu, .int 0])), (nw, .inr (0, [.ref tt, .ref n1, .ref n2, .ref n3, .ref n4, .ref n5, .ref n6, .ref n7, .ref n8, .int 0, .int 0, .int 0]))] s.heap := hP
  have hD : va_D A [(h0, .inr (5, [.ref tt, .ref rd, .ref nw, .ref th, .ref kp, .ref sh, .ref tu, .int 0])), (nw, .inr (0, [.ref tt, .ref n1, .ref n2, .ref n3, .ref n4, .ref n5, .ref n6, .ref n7, .ref n8, .int 0, .int 0, .int 0]))] := hD
  have hl := lv_entry ([.ref h0, .int v0, .int v1, .int v2]) (n := 4) (Nat.le_of_ble_eq_true rfl)
  rw [lg_entry_eq]
  generalize (lg_sl ([.ref h0, .int v0, .int v1, .int v2]) ++ List.replicate (4 - (lg_sl ([.ref h0, .int v0, .int v1, .int v2])).length) Slot.unset).toArray = ls at hl ⊢
  have hl : lv_has ls 4 [(0, .ref h0), (1, .int v0), (2, .int v1), (3, .int v2)] := hl
  have kf28 := hts (.fieldLink RX5 28 "PebbleInShoe" "now" "LPebbleInShoe$Court;") (by decide +kernel)
  have hiX5 := (by decide +kernel : ∀ w ∈ wsX50, w ∈ wsX5_walk)
  refine lv_aload_n hx hb dX5_walk_0 rfl (lv_at hl 0 rfl) ?_
  refine va_get (D := G.1) (ci := 5) (v := .ref nw) (C := RX5) (T := TX5) (N := 8) hx hb hts hiX5 hown hK hP 0 rfl rfl 2 (by decide) kf28 (fun _ h9 => h9) rfl dX5_walk_1 ?_
  refine lv_iload_n hx hb dX5_walk_4 rfl (lv_at hl 1 rfl) ?_
  refine lv_iload_n hx hb dX5_walk_5 rfl (lv_at hl 2 rfl) ?_
  have hPc : va_P G.1 vwCl [(nw, .inr (0, [.ref tt, .ref n1, .ref n2, .ref n3, .ref n4, .ref n5, .ref n6, .ref n7, .ref n8, .int 0, .int 0, .int 0]))] s.heap := hP.sub [1] rfl
  have hDc : va_D A [(nw, .inr (0, [.ref tt, .ref n1, .ref n2, .ref n3, .ref n4, .ref n5, .ref n6, .ref n7, .ref n8, .int 0, .int 0, .int 0]))] := hD.sub [1] (by decide) rfl
  have hFc := va_free (wc := [(nw, .inr (0, [.ref tt, .ref n1, .ref n2, .ref n3, .ref n4, .ref n5, .ref n6, .ref n7, .ref n8, .int 0, .int 0, .int 0]))]) hD hS hA [1] rfl
  refine va_calli (va_runV (As := [.int v0, .int v1]) (rest := []) ⟨hx, hb, hml, hown, hts⟩ (c_X0_hasBoth_0 l G nw tt n1 n2 n3 n4 n5 n6 n7 n8 v0 v1 s.heap.size) (cwV 2 hts gX5_walk_X0_hasBoth rfl rfl rfl (by decide +kernel) ⟨Nat.le_of_ble_eq_true rfl, Nat.le_of_ble_eq_true rfl⟩) ⟨gPre_blind, va_recv hK hPc (ci := 0) (q0 := 0) rfl rfl, fun U hU hW => gPre_of hU hW hK hPc hDc⟩ rfl rfl hl.1 rfl (lv_room (Nat.le_of_ble_eq_true rfl)) dX5_walk_6 ⟨Nat.le_of_ble_eq_true rfl, Nat.le_of_ble_eq_true rfl⟩) hS (fun q _ h => hFc q h) hFc (fun r_1 u t H locs ht hvm w_2 hB hz1 hk1 hS => ?_)
  obtain ⟨hP1, hK1, hD1⟩ := hB
  rw [ht] at hP1
  have hP1 : va_P G.1 vwCl [(nw, .inr (0, [.ref tt, .ref n1, .ref n2, .ref n3, .ref n4, .ref n5, .ref n6, .ref n7, .ref n8, .int 0, .int 0, .int 0]))] H := hP1
  have hD1 : va_D (va_A [(nw, .inr (0, [.ref tt, .ref n1, .ref n2, .ref n3, .ref n4, .ref n5, .ref n6, .ref n7, .ref n8, .int 0, .int 0, .int 0]))] s.heap.size) [(nw, .inr (0, [.ref tt, .ref n1, .ref n2, .ref n3, .ref n4, .ref n5, .ref n6, .ref n7, .ref n8, .int 0, .int 0, .int 0]))] := hD1
  have w_2 : r_1 = 0 := w_2
  obtain ⟨hP, hD⟩ := va_join (wr := [(h0, .inr (5, [.ref tt, .ref rd, .ref nw, .ref th, .ref kp, .ref sh, .ref tu, .int 0]))]) (w1 := [(nw, .inr (0, [.ref tt, .ref n1, .ref n2, .ref n3, .ref n4, .ref n5, .ref n6, .ref n7, .ref n8, .int 0, .int 0, .int 0]))]) hP hD [1] [0] rfl rfl (by decide) (by decide) hk1 hFc hP1 hD1
  have hP : va_P G.1 vwCl [(h0, .inr (5, [.ref tt, .ref rd, .ref nw, .ref th, .ref kp, .ref sh, .ref tu, .int 0])), (nw, .inr (0, [.ref tt, .ref n1, .ref n2, .ref n3, .ref n4, .ref n5, .ref n6, .ref n7, .ref n8, .int 0, .int 0, .int 0]))] H := hP
  have hD : va_D A [(h0, .inr (5, [.ref tt, .ref rd, .ref nw, .ref th, .ref kp, .ref sh, .ref tu, .int 0])), (nw, .inr (0, [.ref tt, .ref n1, .ref n2, .ref n3, .ref n4, .ref n5, .ref n6, .ref n7, .ref n8, .int 0, .int 0, .int 0]))] := hD
  have w_2 : r_1 = 0 := w_2
  subst w_2
  refine lv_if_ne (tgt := 15) hx hb dX5_walk_9 (by decide) (fun c_3 => ?_) (fun c_3 => ?_)
  · exact absurd (by decide) c_3
  refine lv_bipush (v := -5) hx hb dX5_walk_12 (by decide) ?_
  have hpost : (fun (r : Int32) (u : Unit) => match u with | _ => r = -5) (-5) () := pp_X5_walk_0_1 v0 v1 v2 
  exact W.iret (v := (-5)) hx hb hr (fun t ht hW => ⟨⟨(-5), (), rfl, hpost, trivial⟩, hS.F ht⟩) hS.2.2 dX5_walk_14
theorem pp_X5_hear_0_1 (v0 : Int32) (v1 : Int32) (v2 : Int32) (v3 : Int32) : ((-5) : Int32) = -5 := by
  first
    | rfl
    | exact bz_pos (by (first | omega | (simp only [Int32.lt_iff_toInt_lt, Int32.le_iff_toInt_le, ← Int32.toInt_inj, Int32.reduceToInt] at * <;> omega)))
    | exact bz_neg (by (first | omega | (simp only [Int32.lt_iff_toInt_lt, Int32.le_iff_toInt_le, ← Int32.toInt_inj, Int32.reduceToInt] at * <;> omega)))
    | ((repeat' split) <;> first | rfl | assumption | (symm; assumption) | (exfalso; (first | omega | (simp only [Int32.lt_iff_toInt_lt, Int32.le_iff_toInt_le, ← Int32.toInt_inj, Int32.reduceToInt] at * <;> omega))))
abbrev q_X5_hear_0 (G : gG) (h0 tt rd nw th kp sh tu n1 n2 n3 n4 n5 n6 n7 n8 : Nat) (v0 : Int32) (v1 : Int32) (v2 : Int32) (v3 : Int32) (A : Nat → Prop) : Array Value → State → Outcome → State → Prop := va_Qi (fun (r : Int32) (u : Unit) => match u with | _ => r = -5) (fun (u : Unit) t => match u with | _ => True) A
set_option maxHeartbeats 4000000 in
set_option maxRecDepth 100000 in
theorem c_X5_hear_0 (l : Launch) (G : gG) (h0 tt rd nw th kp sh tu n1 n2 n3 n4 n5 n6 n7 n8 : Nat) (v0 : Int32) (v1 : Int32) (v2 : Int32) (v3 : Int32) (sz : Nat) : Met l yX5_hear wsX5_hear ({ frames := 2, cells := 0, slots := 0, locals := 43 }) (gPre G [.ref h0, .int v0, .int v1, .int v2, .int v3] [(h0, .inr (5, [.ref tt, .ref rd, .ref nw, .ref th, .ref kp, .ref sh, .ref tu, .int 0])), (nw, .inr (0, [.ref tt, .ref n1, .ref n2, .ref n3, .ref n4, .ref n5, .ref n6, .ref n7, .ref n8, .int 0, .int 0, .int 0]))] sz) (q_X5_hear_0 G h0 tt rd nw th kp sh tu n1 n2 n3 n4 n5 n6 n7 n8 v0 v1 v2 v3 (va_A [(h0, .inr (5, [.ref tt, .ref rd, .ref nw, .ref th, .ref kp, .ref sh, .ref tu, .int 0])), (nw, .inr (0, [.ref tt, .ref n1, .ref n2, .ref n3, .ref n4, .ref n5, .ref n6, .ref n7, .ref n8, .int 0, .int 0, .int 0]))] sz)) 0 0 (va_A [(h0, .inr (5, [.ref tt, .ref rd, .ref nw, .ref th, .ref kp, .ref sh, .ref tu, .int 0])), (nw, .inr (0, [.ref tt, .ref n1, .ref n2, .ref n3, .ref n4, .ref n5, .ref n6, .ref n7, .ref n8, .int 0, .int 0, .int 0]))] sz) := by
  refine Met.ofW (cc := cX5_hear) (maxL := 6) (ret := (some .int)) (by decide) rfl ?_
  intro p e s m args below meth c s₁ B hml hv
  obtain ⟨rfl, hsz, hP, hK, hD0⟩ := hv
  have hx := B.exec
  have hb := B.bytes
  have hr := B.returns
  have hts := atoms_spec (ws := wsX5_hear) B.pre
  have hown : s.vm.findClass RX5 = some m.cls := findClass_of_methodNamed B.named
  have hlocks := B.notSynchronized
  subst hsz
  have hD := hD0.self (sz := s.heap.size)
  generalize hAe : va_A [(h0, .inr (5, [.ref tt, .ref rd, .ref nw, .ref th, .ref kp, .ref sh, .ref tu, .int 0])), (nw, .inr (0, [.ref tt, .ref n1, .ref n2, .ref n3, .ref n4, .ref n5, .ref n6, .ref n7, .ref n8, .int 0, .int 0, .int 0]))] s.heap.size = A at hD ⊢
  have hA : ∀ q : Nat, s.heap.size ≤ q → A q := fun q h => by rw [← hAe]; exact Or.inr h
  have hS : va_S A s.heap s.heap [] := va_S.rf
  have hP : va_P G.1 vwCl [(h0, .inr (5, [.ref tt, .ref rd, .ref nw, .ref th, .ref kp, .ref sh, .ref tu, .int 0])), (nw, .inr (0, [.ref tt, .ref n1, .ref n2, .ref n3, .ref n4, .ref n5, .ref n6, .ref n7, .ref n8, .int 0, .int 0, .int 0]))] s.heap := hP
  have hD : va_D A [(h0, .inr (5, [.ref tt, .ref rd, .ref nw, .ref th, .ref kp, .ref sh, .ref tu, .int 0])), (nw, .inr (0, [.ref tt, .ref n1, .ref n2, .ref n3, .ref n4, .ref n5, .ref n6, .ref n7, .ref n8, .int 0, .int 0, .int 0]))] := hD
  have hl := lv_entry ([.ref h0, .int v0, .int v1, .int v2, .int v3]) (n := 6) (Nat.le_of_ble_eq_true rfl)
  rw [lg_entry_eq]
  generalize (lg_sl ([.ref h0, .int v0, .int v1, .int v2, .int v3]) ++ List.replicate (6 - (lg_sl ([.ref h0, .int v0, .int v1, .int v2, .int v3])).length) Slot.unset).toArray = ls at hl ⊢
  have hl : lv_has ls 6 [(0, .ref h0), (1, .int v0), (2, .int v1), (3, .int v2), (4, .int v3)] := hl
  have kf28 := hts (.fieldLink RX5 28 "PebbleInShoe" "now" "LPebbleInShoe$Court;") (by decide +kernel)
  have hiX5 := (by decide +kernel : ∀ w ∈ wsX50, w ∈ wsX5_hear)
  refine lv_aload_n hx hb dX5_hear_0 rfl (lv_at hl 0 rfl) ?_
  refine va_get (D := G.1) (ci := 5) (v := .ref nw) (C := RX5) (T := TX5) (N := 8) hx hb hts hiX5 hown hK hP 0 rfl rfl 2 (by decide) kf28 (fun _ h9 => h9) rfl dX5_hear_1 ?_
  refine lv_iload_n hx hb dX5_hear_4 rfl (lv_at hl 1 rfl) ?_
  refine lv_iload_n hx hb dX5_hear_5 rfl (lv_at hl 2 rfl) ?_
  have hPc : va_P G.1 vwCl [(nw, .inr (0, [.ref tt, .ref n1, .ref n2, .ref n3, .ref n4, .ref n5, .ref n6, .ref n7, .ref n8, .int 0, .int 0, .int 0]))] s.heap := hP.sub [1] rfl
  have hDc : va_D A [(nw, .inr (0, [.ref tt, .ref n1, .ref n2, .ref n3, .ref n4, .ref n5, .ref n6, .ref n7, .ref n8, .int 0, .int 0, .int 0]))] := hD.sub [1] (by decide) rfl
  have hFc := va_free (wc := [(nw, .inr (0, [.ref tt, .ref n1, .ref n2, .ref n3, .ref n4, .ref n5, .ref n6, .ref n7, .ref n8, .int 0, .int 0, .int 0]))]) hD hS hA [1] rfl
  refine va_calli (va_runV (As := [.int v0, .int v1]) (rest := []) ⟨hx, hb, hml, hown, hts⟩ (c_X0_hasBoth_0 l G nw tt n1 n2 n3 n4 n5 n6 n7 n8 v0 v1 s.heap.size) (cwV 2 hts gX5_hear_X0_hasBoth rfl rfl rfl (by decide +kernel) ⟨Nat.le_of_ble_eq_true rfl, Nat.le_of_ble_eq_true rfl⟩) ⟨gPre_blind, va_recv hK hPc (ci := 0) (q0 := 0) rfl rfl, fun U hU hW => gPre_of hU hW hK hPc hDc⟩ rfl rfl hl.1 rfl (lv_room (Nat.le_of_ble_eq_true rfl)) dX5_hear_6 ⟨Nat.le_of_ble_eq_true rfl, Nat.le_of_ble_eq_true rfl⟩) hS (fun q _ h => hFc q h) hFc (fun r_1 u t H locs ht hvm w_2 hB hz1 hk1 hS => ?_)
  obtain ⟨hP1, hK1, hD1⟩ := hB
  rw [ht] at hP1
  have hP1 : va_P G.1 vwCl [(nw, .inr (0, [.ref tt, .ref n1, .ref n2, .ref n3, .ref n4, .ref n5, .ref n6, .ref n7, .ref n8, .int 0, .int 0, .int 0]))] H := hP1
  have hD1 : va_D (va_A [(nw, .inr (0, [.ref tt, .ref n1, .ref n2, .ref n3, .ref n4, .ref n5, .ref n6, .ref n7, .ref n8, .int 0, .int 0, .int 0]))] s.heap.size) [(nw, .inr (0, [.ref tt, .ref n1, .ref n2, .ref n3, .ref n4, .ref n5, .ref n6, .ref n7, .ref n8, .int 0, .int 0, .int 0]))] := hD1
  have w_2 : r_1 = 0 := w_2
  obtain ⟨hP, hD⟩ := va_join (wr := [(h0, .inr (5, [.ref tt, .ref rd, .ref nw, .ref th, .ref kp, .ref sh, .ref tu, .int 0]))]) (w1 := [(nw, .inr (0, [.ref tt, .ref n1, .ref n2, .ref n3, .ref n4, .ref n5, .ref n6, .ref n7, .ref n8, .int 0, .int 0, .int 0]))]) hP hD [1] [0] rfl rfl (by decide) (by decide) hk1 hFc hP1 hD1
  have hP : va_P G.1 vwCl [(h0, .inr (5, [.ref tt, .ref rd, .ref nw, .ref th, .ref kp, .ref sh, .ref tu, .int 0])), (nw, .inr (0, [.ref tt, .ref n1, .ref n2, .ref n3, .ref n4, .ref n5, .ref n6, .ref n7, .ref n8, .int 0, .int 0, .int 0]))] H := hP
  have hD : va_D A [(h0, .inr (5, [.ref tt, .ref rd, .ref nw, .ref th, .ref kp, .ref sh, .ref tu, .int 0])), (nw, .inr (0, [.ref tt, .ref n1, .ref n2, .ref n3, .ref n4, .ref n5, .ref n6, .ref n7, .ref n8, .int 0, .int 0, .int 0]))] := hD
  have w_2 : r_1 = 0 := w_2
  subst w_2
  refine lv_if_ne (tgt := 15) hx hb dX5_hear_9 (by decide) (fun c_3 => ?_) (fun c_3 => ?_)
  · exact absurd (by decide) c_3
  refine lv_bipush (v := -5) hx hb dX5_hear_12 (by decide) ?_
  have hpost : (fun (r : Int32) (u : Unit) => match u with | _ => r = -5) (-5) () := pp_X5_hear_0_1 v0 v1 v2 v3 
  exact W.iret (v := (-5)) hx hb hr (fun t ht hW => ⟨⟨(-5), (), rfl, hpost, trivial⟩, hS.F ht⟩) hS.2.2 dX5_hear_14
theorem pp_X5_fewest_0_1 (v0 : Int32) (v1 : Int32) : ((-5) : Int32) = -5 := by
  first
    | rfl
    | exact bz_pos (by (first | omega | (simp only [Int32.lt_iff_toInt_lt, Int32.le_iff_toInt_le, ← Int32.toInt_inj, Int32.reduceToInt] at * <;> omega)))
    | exact bz_neg (by (first | omega | (simp only [Int32.lt_iff_toInt_lt, Int32.le_iff_toInt_le, ← Int32.toInt_inj, Int32.reduceToInt] at * <;> omega)))
    | ((repeat' split) <;> first | rfl | assumption | (symm; assumption) | (exfalso; (first | omega | (simp only [Int32.lt_iff_toInt_lt, Int32.le_iff_toInt_le, ← Int32.toInt_inj, Int32.reduceToInt] at * <;> omega))))
abbrev q_X5_fewest_0 (G : gG) (h0 tt rd nw th kp sh tu n1 n2 n3 n4 n5 n6 n7 n8 : Nat) (v0 : Int32) (v1 : Int32) (A : Nat → Prop) : Array Value → State → Outcome → State → Prop := va_Qi (fun (r : Int32) (u : Unit) => match u with | _ => r = -5) (fun (u : Unit) t => match u with | _ => True) A
set_option maxHeartbeats 4000000 in
set_option maxRecDepth 100000 in
theorem c_X5_fewest_0 (l : Launch) (G : gG) (h0 tt rd nw th kp sh tu n1 n2 n3 n4 n5 n6 n7 n8 : Nat) (v0 : Int32) (v1 : Int32) (sz : Nat) : Met l yX5_fewest wsX5_fewest ({ frames := 2, cells := 0, slots := 0, locals := 43 }) (gPre G [.ref h0, .int v0, .int v1] [(h0, .inr (5, [.ref tt, .ref rd, .ref nw, .ref th, .ref kp, .ref sh, .ref tu, .int 0])), (nw, .inr (0, [.ref tt, .ref n1, .ref n2, .ref n3, .ref n4, .ref n5, .ref n6, .ref n7, .ref n8, .int 0, .int 0, .int 0]))] sz) (q_X5_fewest_0 G h0 tt rd nw th kp sh tu n1 n2 n3 n4 n5 n6 n7 n8 v0 v1 (va_A [(h0, .inr (5, [.ref tt, .ref rd, .ref nw, .ref th, .ref kp, .ref sh, .ref tu, .int 0])), (nw, .inr (0, [.ref tt, .ref n1, .ref n2, .ref n3, .ref n4, .ref n5, .ref n6, .ref n7, .ref n8, .int 0, .int 0, .int 0]))] sz)) 0 0 (va_A [(h0, .inr (5, [.ref tt, .ref rd, .ref nw, .ref th, .ref kp, .ref sh, .ref tu, .int 0])), (nw, .inr (0, [.ref tt, .ref n1, .ref n2, .ref n3, .ref n4, .ref n5, .ref n6, .ref n7, .ref n8, .int 0, .int 0, .int 0]))] sz) := by
  refine Met.ofW (cc := cX5_fewest) (maxL := 3) (ret := (some .int)) (by decide) rfl ?_
  intro p e s m args below meth c s₁ B hml hv
  obtain ⟨rfl, hsz, hP, hK, hD0⟩ := hv
  have hx := B.exec
  have hb := B.bytes
  have hr := B.returns
  have hts := atoms_spec (ws := wsX5_fewest) B.pre
  have hown : s.vm.findClass RX5 = some m.cls := findClass_of_methodNamed B.named
  have hlocks := B.notSynchronized
  subst hsz
  have hD := hD0.self (sz := s.heap.size)
  generalize hAe : va_A [(h0, .inr (5, [.ref tt, .ref rd, .ref nw, .ref th, .ref kp, .ref sh, .ref tu, .int 0])), (nw, .inr (0, [.ref tt, .ref n1, .ref n2, .ref n3, .ref n4, .ref n5, .ref n6, .ref n7, .ref n8, .int 0, .int 0, .int 0]))] s.heap.size = A at hD ⊢
  have hA : ∀ q : Nat, s.heap.size ≤ q → A q := fun q h => by rw [← hAe]; exact Or.inr h
  have hS : va_S A s.heap s.heap [] := va_S.rf
  have hP : va_P G.1 vwCl [(h0, .inr (5, [.ref tt, .ref rd, .ref nw, .ref th, .ref kp, .ref sh, .ref tu, .int 0])), (nw, .inr (0, [.ref tt, .ref n1, .ref n2, .ref n3, .ref n4, .ref n5, .ref n6, .ref n7, .ref n8, .int 0, .int 0, .int 0]))] s.heap := hP
  have hD : va_D A [(h0, .inr (5, [.ref tt, .ref rd, .ref nw, .ref th, .ref kp, .ref sh, .ref tu, .int 0])), (nw, .inr (0, [.ref tt, .ref n1, .ref n2, .ref n3, .ref n4, .ref n5, .ref n6, .ref n7, .ref n8, .int 0, .int 0, .int 0]))] := hD
  have hl := lv_entry ([.ref h0, .int v0, .int v1]) (n := 3) (Nat.le_of_ble_eq_true rfl)
  rw [lg_entry_eq]
  generalize (lg_sl ([.ref h0, .int v0, .int v1]) ++ List.replicate (3 - (lg_sl ([.ref h0, .int v0, .int v1])).length) Slot.unset).toArray = ls at hl ⊢
  have hl : lv_has ls 3 [(0, .ref h0), (1, .int v0), (2, .int v1)] := hl
  have kf28 := hts (.fieldLink RX5 28 "PebbleInShoe" "now" "LPebbleInShoe$Court;") (by decide +kernel)
  have hiX5 := (by decide +kernel : ∀ w ∈ wsX50, w ∈ wsX5_fewest)
  refine lv_aload_n hx hb dX5_fewest_0 rfl (lv_at hl 0 rfl) ?_
  refine va_get (D := G.1) (ci := 5) (v := .ref nw) (C := RX5) (T := TX5) (N := 8) hx hb hts hiX5 hown hK hP 0 rfl rfl 2 (by decide) kf28 (fun _ h9 => h9) rfl dX5_fewest_1 ?_
  refine lv_iload_n hx hb dX5_fewest_4 rfl (lv_at hl 1 rfl) ?_
  refine lv_iload_n hx hb dX5_fewest_5 rfl (lv_at hl 2 rfl) ?_
  have hPc : va_P G.1 vwCl [(nw, .inr (0, [.ref tt, .ref n1, .ref n2, .ref n3, .ref n4, .ref n5, .ref n6, .ref n7, .ref n8, .int 0, .int 0, .int 0]))] s.heap := hP.sub [1] rfl
  have hDc : va_D A [(nw, .inr (0, [.ref tt, .ref n1, .ref n2, .ref n3, .ref n4, .ref n5, .ref n6, .ref n7, .ref n8, .int 0, .int 0, .int 0]))] := hD.sub [1] (by decide) rfl
  have hFc := va_free (wc := [(nw, .inr (0, [.ref tt, .ref n1, .ref n2, .ref n3, .ref n4, .ref n5, .ref n6, .ref n7, .ref n8, .int 0, .int 0, .int 0]))]) hD hS hA [1] rfl
  refine va_calli (va_runV (As := [.int v0, .int v1]) (rest := []) ⟨hx, hb, hml, hown, hts⟩ (c_X0_hasBoth_0 l G nw tt n1 n2 n3 n4 n5 n6 n7 n8 v0 v1 s.heap.size) (cwV 2 hts gX5_fewest_X0_hasBoth rfl rfl rfl (by decide +kernel) ⟨Nat.le_of_ble_eq_true rfl, Nat.le_of_ble_eq_true rfl⟩) ⟨gPre_blind, va_recv hK hPc (ci := 0) (q0 := 0) rfl rfl, fun U hU hW => gPre_of hU hW hK hPc hDc⟩ rfl rfl hl.1 rfl (lv_room (Nat.le_of_ble_eq_true rfl)) dX5_fewest_6 ⟨Nat.le_of_ble_eq_true rfl, Nat.le_of_ble_eq_true rfl⟩) hS (fun q _ h => hFc q h) hFc (fun r_1 u t H locs ht hvm w_2 hB hz1 hk1 hS => ?_)
  obtain ⟨hP1, hK1, hD1⟩ := hB
  rw [ht] at hP1
  have hP1 : va_P G.1 vwCl [(nw, .inr (0, [.ref tt, .ref n1, .ref n2, .ref n3, .ref n4, .ref n5, .ref n6, .ref n7, .ref n8, .int 0, .int 0, .int 0]))] H := hP1
  have hD1 : va_D (va_A [(nw, .inr (0, [.ref tt, .ref n1, .ref n2, .ref n3, .ref n4, .ref n5, .ref n6, .ref n7, .ref n8, .int 0, .int 0, .int 0]))] s.heap.size) [(nw, .inr (0, [.ref tt, .ref n1, .ref n2, .ref n3, .ref n4, .ref n5, .ref n6, .ref n7, .ref n8, .int 0, .int 0, .int 0]))] := hD1
  have w_2 : r_1 = 0 := w_2
  obtain ⟨hP, hD⟩ := va_join (wr := [(h0, .inr (5, [.ref tt, .ref rd, .ref nw, .ref th, .ref kp, .ref sh, .ref tu, .int 0]))]) (w1 := [(nw, .inr (0, [.ref tt, .ref n1, .ref n2, .ref n3, .ref n4, .ref n5, .ref n6, .ref n7, .ref n8, .int 0, .int 0, .int 0]))]) hP hD [1] [0] rfl rfl (by decide) (by decide) hk1 hFc hP1 hD1
  have hP : va_P G.1 vwCl [(h0, .inr (5, [.ref tt, .ref rd, .ref nw, .ref th, .ref kp, .ref sh, .ref tu, .int 0])), (nw, .inr (0, [.ref tt, .ref n1, .ref n2, .ref n3, .ref n4, .ref n5, .ref n6, .ref n7, .ref n8, .int 0, .int 0, .int 0]))] H := hP
  have hD : va_D A [(h0, .inr (5, [.ref tt, .ref rd, .ref nw, .ref th, .ref kp, .ref sh, .ref tu, .int 0])), (nw, .inr (0, [.ref tt, .ref n1, .ref n2, .ref n3, .ref n4, .ref n5, .ref n6, .ref n7, .ref n8, .int 0, .int 0, .int 0]))] := hD
  have w_2 : r_1 = 0 := w_2
  subst w_2
  refine lv_if_ne (tgt := 15) hx hb dX5_fewest_9 (by decide) (fun c_3 => ?_) (fun c_3 => ?_)
  · exact absurd (by decide) c_3
  refine lv_bipush (v := -5) hx hb dX5_fewest_12 (by decide) ?_
  have hpost : (fun (r : Int32) (u : Unit) => match u with | _ => r = -5) (-5) () := pp_X5_fewest_0_1 v0 v1 
  exact W.iret (v := (-5)) hx hb hr (fun t ht hW => ⟨⟨(-5), (), rfl, hpost, trivial⟩, hS.F ht⟩) hS.2.2 dX5_fewest_14
theorem pp_X5_sand_0_1 (v0 : Int32) (v1 : Int32) : ((-5) : Int32) = -5 := by
  first
    | rfl
    | exact bz_pos (by (first | omega | (simp only [Int32.lt_iff_toInt_lt, Int32.le_iff_toInt_le, ← Int32.toInt_inj, Int32.reduceToInt] at * <;> omega)))
    | exact bz_neg (by (first | omega | (simp only [Int32.lt_iff_toInt_lt, Int32.le_iff_toInt_le, ← Int32.toInt_inj, Int32.reduceToInt] at * <;> omega)))
    | ((repeat' split) <;> first | rfl | assumption | (symm; assumption) | (exfalso; (first | omega | (simp only [Int32.lt_iff_toInt_lt, Int32.le_iff_toInt_le, ← Int32.toInt_inj, Int32.reduceToInt] at * <;> omega))))
abbrev q_X5_sand_0 (G : gG) (h0 tt rd nw th kp sh tu n1 n2 n3 n4 n5 n6 n7 n8 : Nat) (v0 : Int32) (v1 : Int32) (A : Nat → Prop) : Array Value → State → Outcome → State → Prop := va_Qi (fun (r : Int32) (u : Unit) => match u with | _ => r = -5) (fun (u : Unit) t => match u with | _ => True) A
set_option maxHeartbeats 4000000 in
set_option maxRecDepth 100000 in
theorem c_X5_sand_0 (l : Launch) (G : gG) (h0 tt rd nw th kp sh tu n1 n2 n3 n4 n5 n6 n7 n8 : Nat) (v0 : Int32) (v1 : Int32) (sz : Nat) : Met l yX5_sand wsX5_sand ({ frames := 2, cells := 0, slots := 0, locals := 43 }) (gPre G [.ref h0, .int v0, .int v1] [(h0, .inr (5, [.ref tt, .ref rd, .ref nw, .ref th, .ref kp, .ref sh, .ref tu, .int 0])), (nw, .inr (0, [.ref tt, .ref n1, .ref n2, .ref n3, .ref n4, .ref n5, .ref n6, .ref n7, .ref n8, .int 0, .int 0, .int 0]))] sz) (q_X5_sand_0 G h0 tt rd nw th kp sh tu n1 n2 n3 n4 n5 n6 n7 n8 v0 v1 (va_A [(h0, .inr (5, [.ref tt, .ref rd, .ref nw, .ref th, .ref kp, .ref sh, .ref tu, .int 0])), (nw, .inr (0, [.ref tt, .ref n1, .ref n2, .ref n3, .ref n4, .ref n5, .ref n6, .ref n7, .ref n8, .int 0, .int 0, .int 0]))] sz)) 0 0 (va_A [(h0, .inr (5, [.ref tt, .ref rd, .ref nw, .ref th, .ref kp, .ref sh, .ref tu, .int 0])), (nw, .inr (0, [.ref tt, .ref n1, .ref n2, .ref n3, .ref n4, .ref n5, .ref n6, .ref n7, .ref n8, .int 0, .int 0, .int 0]))] sz) := by
  refine Met.ofW (cc := cX5_sand) (maxL := 4) (ret := (some .int)) (by decide) rfl ?_
  intro p e s m args below meth c s₁ B hml hv
  obtain ⟨rfl, hsz, hP, hK, hD0⟩ := hv
  have hx := B.exec
  have hb := B.bytes
  have hr := B.returns
  have hts := atoms_spec (ws := wsX5_sand) B.pre
  have hown : s.vm.findClass RX5 = some m.cls := findClass_of_methodNamed B.named
  have hlocks := B.notSynchronized
  subst hsz
  have hD := hD0.self (sz := s.heap.size)
  generalize hAe : va_A [(h0, .inr (5, [.ref tt, .ref rd, .ref nw, .ref th, .ref kp, .ref sh, .ref tu, .int 0])), (nw, .inr (0, [.ref tt, .ref n1, .ref n2, .ref n3, .ref n4, .ref n5, .ref n6, .ref n7, .ref n8, .int 0, .int 0, .int 0]))] s.heap.size = A at hD ⊢
  have hA : ∀ q : Nat, s.heap.size ≤ q → A q := fun q h => by rw [← hAe]; exact Or.inr h
  have hS : va_S A s.heap s.heap [] := va_S.rf
  have hP : va_P G.1 vwCl [(h0, .inr (5, [.ref tt, .ref rd, .ref nw, .ref th, .ref kp, .ref sh, .ref tu, .int 0])), (nw, .inr (0, [.ref tt, .ref n1, .ref n2, .ref n3, .ref n4, .ref n5, .ref n6, .ref n7, .ref n8, .int 0, .int 0, .int 0]))] s.heap := hP
  have hD : va_D A [(h0, .inr (5, [.ref tt, .ref rd, .ref nw, .ref th, .ref kp, .ref sh, .ref tu, .int 0])), (nw, .inr (0, [.ref tt, .ref n1, .ref n2, .ref n3, .ref n4, .ref n5, .ref n6, .ref n7, .ref n8, .int 0, .int 0, .int 0]))] := hD
  have hl := lv_entry ([.ref h0, .int v0, .int v1]) (n := 4) (Nat.le_of_ble_eq_true rfl)
  rw [lg_entry_eq]
  generalize (lg_sl ([.ref h0, .int v0, .int v1]) ++ List.replicate (4 - (lg_sl ([.ref h0, .int v0, .int v1])).length) Slot.unset).toArray = ls at hl ⊢
  have hl : lv_has ls 4 [(0, .ref h0), (1, .int v0), (2, .int v1)] := hl
  have kf28 := hts (.fieldLink RX5 28 "PebbleInShoe" "now" "LPebbleInShoe$Court;") (by decide +kernel)
  have hiX5 := (by decide +kernel : ∀ w ∈ wsX50, w ∈ wsX5_sand)
  refine lv_aload_n hx hb dX5_sand_0 rfl (lv_at hl 0 rfl) ?_
  refine va_get (D := G.1) (ci := 5) (v := .ref nw) (C := RX5) (T := TX5) (N := 8) hx hb hts hiX5 hown hK hP 0 rfl rfl 2 (by decide) kf28 (fun _ h9 => h9) rfl dX5_sand_1 ?_
  refine lv_iload_n hx hb dX5_sand_4 rfl (lv_at hl 1 rfl) ?_
  refine lv_iload_n hx hb dX5_sand_5 rfl (lv_at hl 2 rfl) ?_
  have hPc : va_P G.1 vwCl [(nw, .inr (0, [.ref tt, .ref n1, .ref n2, .ref n3, .ref n4, .ref n5, .ref n6, .ref n7, .ref n8, .int 0, .int 0, .int 0]))] s.heap := hP.sub [1] rfl
  have hDc : va_D A [(nw, .inr (0, [.ref tt, .ref n1, .ref n2, .ref n3, .ref n4, .ref n5, .ref n6, .ref n7, .ref n8, .int 0, .int 0, .int 0]))] := hD.sub [1] (by decide) rfl
  have hFc := va_free (wc := [(nw, .inr (0, [.ref tt, .ref n1, .ref n2, .ref n3, .ref n4, .ref n5, .ref n6, .ref n7, .ref n8, .int 0, .int 0, .int 0]))]) hD hS hA [1] rfl
  refine va_calli (va_runV (As := [.int v0, .int v1]) (rest := []) ⟨hx, hb, hml, hown, hts⟩ (c_X0_hasBoth_0 l G nw tt n1 n2 n3 n4 n5 n6 n7 n8 v0 v1 s.heap.size) (cwV 2 hts gX5_sand_X0_hasBoth rfl rfl rfl (by decide +kernel) ⟨Nat.le_of_ble_eq_true rfl, Nat.le_of_ble_eq_true rfl⟩) ⟨gPre_blind, va_recv hK hPc (ci := 0) (q0 := 0) rfl rfl, fun U hU hW => gPre_of hU hW hK hPc hDc⟩ rfl rfl hl.1 rfl (lv_room (Nat.le_of_ble_eq_true rfl)) dX5_sand_6 ⟨Nat.le_of_ble_eq_true rfl, Nat.le_of_ble_eq_true rfl⟩) hS (fun q _ h => hFc q h) hFc (fun r_1 u t H locs ht hvm w_2 hB hz1 hk1 hS => ?_)
  obtain ⟨hP1, hK1, hD1⟩ := hB
  rw [ht] at hP1
  have hP1 : va_P G.1 vwCl [(nw, .inr (0, [.ref tt, .ref n1, .ref n2, .ref n3, .ref n4, .ref n5, .ref n6, .ref n7, .ref n8, .int 0, .int 0, .int 0]))] H := hP1
  have hD1 : va_D (va_A [(nw, .inr (0, [.ref tt, .ref n1, .ref n2, .ref n3, .ref n4, .ref n5, .ref n6, .ref n7, .ref n8, .int 0, .int 0, .int 0]))] s.heap.size) [(nw, .inr (0, [.ref tt, .ref n1, .ref n2, .ref n3, .ref n4, .ref n5, .ref n6, .ref n7, .ref n8, .int 0, .int 0, .int 0]))] := hD1
  have w_2 : r_1 = 0 := w_2
  obtain ⟨hP, hD⟩ := va_join (wr := [(h0, .inr (5, [.ref tt, .ref rd, .ref nw, .ref th, .ref kp, .ref sh, .ref tu, .int 0]))]) (w1 := [(nw, .inr (0, [.ref tt, .ref n1, .ref n2, .ref n3, .ref n4, .ref n5, .ref n6, .ref n7, .ref n8, .int 0, .int 0, .int 0]))]) hP hD [1] [0] rfl rfl (by decide) (by decide) hk1 hFc hP1 hD1
  have hP : va_P G.1 vwCl [(h0, .inr (5, [.ref tt, .ref rd, .ref nw, .ref th, .ref kp, .ref sh, .ref tu, .int 0])), (nw, .inr (0, [.ref tt, .ref n1, .ref n2, .ref n3, .ref n4, .ref n5, .ref n6, .ref n7, .ref n8, .int 0, .int 0, .int 0]))] H := hP
  have hD : va_D A [(h0, .inr (5, [.ref tt, .ref rd, .ref nw, .ref th, .ref kp, .ref sh, .ref tu, .int 0])), (nw, .inr (0, [.ref tt, .ref n1, .ref n2, .ref n3, .ref n4, .ref n5, .ref n6, .ref n7, .ref n8, .int 0, .int 0, .int 0]))] := hD
  have w_2 : r_1 = 0 := w_2
  subst w_2
  refine lv_if_ne (tgt := 15) hx hb dX5_sand_9 (by decide) (fun c_3 => ?_) (fun c_3 => ?_)
  · exact absurd (by decide) c_3
  refine lv_bipush (v := -5) hx hb dX5_sand_12 (by decide) ?_
  have hpost : (fun (r : Int32) (u : Unit) => match u with | _ => r = -5) (-5) () := pp_X5_sand_0_1 v0 v1 
  exact W.iret (v := (-5)) hx hb hr (fun t ht hW => ⟨⟨(-5), (), rfl, hpost, trivial⟩, hS.F ht⟩) hS.2.2 dX5_sand_14
theorem pp_X5_unlike_0_1 (v0 : Int32) (v1 : Int32) (v2 : Int32) : ((-5) : Int32) = -5 := by
  first
    | rfl
    | exact bz_pos (by (first | omega | (simp only [Int32.lt_iff_toInt_lt, Int32.le_iff_toInt_le, ← Int32.toInt_inj, Int32.reduceToInt] at * <;> omega)))
    | exact bz_neg (by (first | omega | (simp only [Int32.lt_iff_toInt_lt, Int32.le_iff_toInt_le, ← Int32.toInt_inj, Int32.reduceToInt] at * <;> omega)))
    | ((repeat' split) <;> first | rfl | assumption | (symm; assumption) | (exfalso; (first | omega | (simp only [Int32.lt_iff_toInt_lt, Int32.le_iff_toInt_le, ← Int32.toInt_inj, Int32.reduceToInt] at * <;> omega))))
abbrev q_X5_unlike_0 (G : gG) (h0 tt rd nw th kp sh tu n1 n2 n3 n4 n5 n6 n7 n8 : Nat) (v0 : Int32) (v1 : Int32) (v2 : Int32) (A : Nat → Prop) : Array Value → State → Outcome → State → Prop := va_Qi (fun (r : Int32) (u : Unit) => match u with | _ => r = -5) (fun (u : Unit) t => match u with | _ => True) A
set_option maxHeartbeats 4000000 in
set_option maxRecDepth 100000 in
theorem c_X5_unlike_0 (l : Launch) (G : gG) (h0 tt rd nw th kp sh tu n1 n2 n3 n4 n5 n6 n7 n8 : Nat) (v0 : Int32) (v1 : Int32) (v2 : Int32) (sz : Nat) : Met l yX5_unlike wsX5_unlike ({ frames := 2, cells := 0, slots := 0, locals := 43 }) (gPre G [.ref h0, .int v0, .int v1, .int v2] [(h0, .inr (5, [.ref tt, .ref rd, .ref nw, .ref th, .ref kp, .ref sh, .ref tu, .int 0])), (nw, .inr (0, [.ref tt, .ref n1, .ref n2, .ref n3, .ref n4, .ref n5, .ref n6, .ref n7, .ref n8, .int 0, .int 0, .int 0]))] sz) (q_X5_unlike_0 G h0 tt rd nw th kp sh tu n1 n2 n3 n4 n5 n6 n7 n8 v0 v1 v2 (va_A [(h0, .inr (5, [.ref tt, .ref rd, .ref nw, .ref th, .ref kp, .ref sh, .ref tu, .int 0])), (nw, .inr (0, [.ref tt, .ref n1, .ref n2, .ref n3, .ref n4, .ref n5, .ref n6, .ref n7, .ref n8, .int 0, .int 0, .int 0]))] sz)) 0 0 (va_A [(h0, .inr (5, [.ref tt, .ref rd, .ref nw, .ref th, .ref kp, .ref sh, .ref tu, .int 0])), (nw, .inr (0, [.ref tt, .ref n1, .ref n2, .ref n3, .ref n4, .ref n5, .ref n6, .ref n7, .ref n8, .int 0, .int 0, .int 0]))] sz) := by
  refine Met.ofW (cc := cX5_unlike) (maxL := 4) (ret := (some .int)) (by decide) rfl ?_
  intro p e s m args below meth c s₁ B hml hv
  obtain ⟨rfl, hsz, hP, hK, hD0⟩ := hv
  have hx := B.exec
  have hb := B.bytes
  have hr := B.returns
  have hts := atoms_spec (ws := wsX5_unlike) B.pre
  have hown : s.vm.findClass RX5 = some m.cls := findClass_of_methodNamed B.named
  have hlocks := B.notSynchronized
  subst hsz
  have hD := hD0.self (sz := s.heap.size)
  generalize hAe : va_A [(h0, .inr (5, [.ref tt, .ref rd, .ref nw, .ref th, .ref kp, .ref sh, .ref tu, .int 0])), (nw, .inr (0, [.ref tt, .ref n1, .ref n2, .ref n3, .ref n4, .ref n5, .ref n6, .ref n7, .ref n8, .int 0, .int 0, .int 0]))] s.heap.size = A at hD ⊢
  have hA : ∀ q : Nat, s.heap.size ≤ q → A q := fun q h => by rw [← hAe]; exact Or.inr h
  have hS : va_S A s.heap s.heap [] := va_S.rf
  have hP : va_P G.1 vwCl [(h0, .inr (5, [.ref tt, .ref rd, .ref nw, .ref th, .ref kp, .ref sh, .ref tu, .int 0])), (nw, .inr (0, [.ref tt, .ref n1, .ref n2, .ref n3, .ref n4, .ref n5, .ref n6, .ref n7, .ref n8, .int 0, .int 0, .int 0]))] s.heap := hP
  have hD : va_D A [(h0, .inr (5, [.ref tt, .ref rd, .ref nw, .ref th, .ref kp, .ref sh, .ref tu, .int 0])), (nw, .inr (0, [.ref tt, .ref n1, .ref n2, .ref n3, .ref n4, .ref n5, .ref n6, .ref n7, .ref n8, .int 0, .int 0, .int 0]))] := hD
  have hl := lv_entry ([.ref h0, .int v0, .int v1, .int v2]) (n := 4) (Nat.le_of_ble_eq_true rfl)
  rw [lg_entry_eq]
  generalize (lg_sl ([.ref h0, .int v0, .int v1, .int v2]) ++ List.replicate (4 - (lg_sl ([.ref h0, .int v0, .int v1, .int v2])).length) Slot.unset).toArray = ls at hl ⊢
  have hl : lv_has ls 4 [(0, .ref h0), (1, .int v0), (2, .int v1), (3, .int v2)] := hl
  have kf28 := hts (.fieldLink RX5 28 "PebbleInShoe" "now" "LPebbleInShoe$Court;") (by decide +kernel)
  have hiX5 := (by decide +kernel : ∀ w ∈ wsX50, w ∈ wsX5_unlike)
  refine lv_aload_n hx hb dX5_unlike_0 rfl (lv_at hl 0 rfl) ?_
  refine va_get (D := G.1) (ci := 5) (v := .ref nw) (C := RX5) (T := TX5) (N := 8) hx hb hts hiX5 hown hK hP 0 rfl rfl 2 (by decide) kf28 (fun _ h9 => h9) rfl dX5_unlike_1 ?_
  refine lv_iload_n hx hb dX5_unlike_4 rfl (lv_at hl 1 rfl) ?_
  refine lv_iload_n hx hb dX5_unlike_5 rfl (lv_at hl 3 rfl) ?_
  have hPc : va_P G.1 vwCl [(nw, .inr (0, [.ref tt, .ref n1, .ref n2, .ref n3, .ref n4, .ref n5, .ref n6, .ref n7, .ref n8, .int 0, .int 0, .int 0]))] s.heap := hP.sub [1] rfl
  have hDc : va_D A [(nw, .inr (0, [.ref tt, .ref n1, .ref n2, .ref n3, .ref n4, .ref n5, .ref n6, .ref n7, .ref n8, .int 0, .int 0, .int 0]))] := hD.sub [1] (by decide) rfl
  have hFc := va_free (wc := [(nw, .inr (0, [.ref tt, .ref n1, .ref n2, .ref n3, .ref n4, .ref n5, .ref n6, .ref n7, .ref n8, .int 0, .int 0, .int 0]))]) hD hS hA [1] rfl
  refine va_calli (va_runV (As := [.int v0, .int v2]) (rest := []) ⟨hx, hb, hml, hown, hts⟩ (c_X0_hasBoth_0 l G nw tt n1 n2 n3 n4 n5 n6 n7 n8 v0 v2 s.heap.size) (cwV 2 hts gX5_unlike_X0_hasBoth rfl rfl rfl (by decide +kernel) ⟨Nat.le_of_ble_eq_true rfl, Nat.le_of_ble_eq_true rfl⟩) ⟨gPre_blind, va_recv hK hPc (ci := 0) (q0 := 0) rfl rfl, fun U hU hW => gPre_of hU hW hK hPc hDc⟩ rfl rfl hl.1 rfl (lv_room (Nat.le_of_ble_eq_true rfl)) dX5_unlike_6 ⟨Nat.le_of_ble_eq_true rfl, Nat.le_of_ble_eq_true rfl⟩) hS (fun q _ h => hFc q h) hFc (fun r_1 u t H locs ht hvm w_2 hB hz1 hk1 hS => ?_)
  obtain ⟨hP1, hK1, hD1⟩ := hB
  rw [ht] at hP1
  have hP1 : va_P G.1 vwCl [(nw, .inr (0, [.ref tt, .ref n1, .ref n2, .ref n3, .ref n4, .ref n5, .ref n6, .ref n7, .ref n8, .int 0, .int 0, .int 0]))] H := hP1
  have hD1 : va_D (va_A [(nw, .inr (0, [.ref tt, .ref n1, .ref n2, .ref n3, .ref n4, .ref n5, .ref n6, .ref n7, .ref n8, .int 0, .int 0, .int 0]))] s.heap.size) [(nw, .inr (0, [.ref tt, .ref n1, .ref n2, .ref n3, .ref n4, .ref n5, .ref n6, .ref n7, .ref n8, .int 0, .int 0, .int 0]))] := hD1
  have w_2 : r_1 = 0 := w_2
  obtain ⟨hP, hD⟩ := va_join (wr := [(h0, .inr (5, [.ref tt, .ref rd, .ref nw, .ref th, .ref kp, .ref sh, .ref tu, .int 0]))]) (w1 := [(nw, .inr (0, [.ref tt, .ref n1, .ref n2, .ref n3, .ref n4, .ref n5, .ref n6, .ref n7, .ref n8, .int 0, .int 0, .int 0]))]) hP hD [1] [0] rfl rfl (by decide) (by decide) hk1 hFc hP1 hD1
  have hP : va_P G.1 vwCl [(h0, .inr (5, [.ref tt, .ref rd, .ref nw, .ref th, .ref kp, .ref sh, .ref tu, .int 0])), (nw, .inr (0, [.ref tt, .ref n1, .ref n2, .ref n3, .ref n4, .ref n5, .ref n6, .ref n7, .ref n8, .int 0, .int 0, .int 0]))] H := hP
  have hD : va_D A [(h0, .inr (5, [.ref tt, .ref rd, .ref nw, .ref th, .ref kp, .ref sh, .ref tu, .int 0])), (nw, .inr (0, [.ref tt, .ref n1, .ref n2, .ref n3, .ref n4, .ref n5, .ref n6, .ref n7, .ref n8, .int 0, .int 0, .int 0]))] := hD
  have w_2 : r_1 = 0 := w_2
  subst w_2
  refine lv_if_eq (tgt := 28) hx hb dX5_unlike_9 (by decide) (fun c_3 => ?_) (fun c_3 => ?_)
  rotate_left
  · exact absurd (by decide) c_3
  refine lv_bipush (v := -5) hx hb dX5_unlike_28 (by decide) ?_
  have hpost : (fun (r : Int32) (u : Unit) => match u with | _ => r = -5) (-5) () := pp_X5_unlike_0_1 v0 v1 v2 
  exact W.iret (v := (-5)) hx hb hr (fun t ht hW => ⟨⟨(-5), (), rfl, hpost, trivial⟩, hS.F ht⟩) hS.2.2 dX5_unlike_30
theorem pp_X5_thick_0_1 (v0 : Int32) (v1 : Int32) (v2 : Int32) : ((-5) : Int32) = -5 := by
  first
    | rfl
    | exact bz_pos (by (first | omega | (simp only [Int32.lt_iff_toInt_lt, Int32.le_iff_toInt_le, ← Int32.toInt_inj, Int32.reduceToInt] at * <;> omega)))
    | exact bz_neg (by (first | omega | (simp only [Int32.lt_iff_toInt_lt, Int32.le_iff_toInt_le, ← Int32.toInt_inj, Int32.reduceToInt] at * <;> omega)))
    | ((repeat' split) <;> first | rfl | assumption | (symm; assumption) | (exfalso; (first | omega | (simp only [Int32.lt_iff_toInt_lt, Int32.le_iff_toInt_le, ← Int32.toInt_inj, Int32.reduceToInt] at * <;> omega))))
abbrev q_X5_thick_0 (G : gG) (h0 tt rd nw th kp sh tu n1 n2 n3 n4 n5 n6 n7 n8 : Nat) (v0 : Int32) (v1 : Int32) (v2 : Int32) (A : Nat → Prop) : Array Value → State → Outcome → State → Prop := va_Qi (fun (r : Int32) (u : Unit) => match u with | _ => r = -5) (fun (u : Unit) t => match u with | _ => True) A
set_option maxHeartbeats 4000000 in
set_option maxRecDepth 100000 in
theorem c_X5_thick_0 (l : Launch) (G : gG) (h0 tt rd nw th kp sh tu n1 n2 n3 n4 n5 n6 n7 n8 : Nat) (v0 : Int32) (v1 : Int32) (v2 : Int32) (sz : Nat) : Met l yX5_thick wsX5_thick ({ frames := 2, cells := 0, slots := 0, locals := 43 }) (gPre G [.ref h0, .int v0, .int v1, .int v2] [(h0, .inr (5, [.ref tt, .ref rd, .ref nw, .ref th, .ref kp, .ref sh, .ref tu, .int 0])), (nw, .inr (0, [.ref tt, .ref n1, .ref n2, .ref n3, .ref n4, .ref n5, .ref n6, .ref n7, .ref n8, .int 0, .int 0, .int 0]))] sz) (q_X5_thick_0 G h0 tt rd nw th kp sh tu n1 n2 n3 n4 n5 n6 n7 n8 v0 v1 v2 (va_A [(h0, .inr (5, [.ref tt, .ref rd, .ref nw, .ref th, .ref kp, .ref sh, .ref tu, .int 0])), (nw, .inr (0, [.ref tt, .ref n1, .ref n2, .ref n3, .ref n4, .ref n5, .ref n6, .ref n7, .ref n8, .int 0, .int 0, .int 0]))] sz)) 0 0 (va_A [(h0, .inr (5, [.ref tt, .ref rd, .ref nw, .ref th, .ref kp, .ref sh, .ref tu, .int 0])), (nw, .inr (0, [.ref tt, .ref n1, .ref n2, .ref n3, .ref n4, .ref n5, .ref n6, .ref n7, .ref n8, .int 0, .int 0, .int 0]))] sz) := by
  refine Met.ofW (cc := cX5_thick) (maxL := 5) (ret := (some .int)) (by decide) rfl ?_
  intro p e s m args below meth c s₁ B hml hv
  obtain ⟨rfl, hsz, hP, hK, hD0⟩ := hv
  have hx := B.exec
  have hb := B.bytes
  have hr := B.returns
  have hts := atoms_spec (ws := wsX5_thick) B.pre
  have hown : s.vm.findClass RX5 = some m.cls := findClass_of_methodNamed B.named
  have hlocks := B.notSynchronized
  subst hsz
  have hD := hD0.self (sz := s.heap.size)
  generalize hAe : va_A [(h0, .inr (5, [.ref tt, .ref rd, .ref nw, .ref th, .ref kp, .ref sh, .ref tu, .int 0])), (nw, .inr (0, [.ref tt, .ref n1, .ref n2, .ref n3, .ref n4, .ref n5, .ref n6, .ref n7, .ref n8, .int 0, .int 0, .int 0]))] s.heap.size = A at hD ⊢
  have hA : ∀ q : Nat, s.heap.size ≤ q → A q := fun q h => by rw [← hAe]; exact Or.inr h
  have hS : va_S A s.heap s.heap [] := va_S.rf
  have hP : va_P G.1 vwCl [(h0, .inr (5, [.ref tt, .ref rd, .ref nw, .ref th, .ref kp, .ref sh, .ref tu, .int 0])), (nw, .inr (0, [.ref tt, .ref n1, .ref n2, .ref n3, .ref n4, .ref n5, .ref n6, .ref n7, .ref n8, .int 0, .int 0, .int 0]))] s.heap := hP
  have hD : va_D A [(h0, .inr (5, [.ref tt, .ref rd, .ref nw, .ref th, .ref kp, .ref sh, .ref tu, .int 0])), (nw, .inr (0, [.ref tt, .ref n1, .ref n2, .ref n3, .ref n4, .ref n5, .ref n6, .ref n7, .ref n8, .int 0, .int 0, .int 0]))] := hD
  have hl := lv_entry ([.ref h0, .int v0, .int v1, .int v2]) (n := 5) (Nat.le_of_ble_eq_true rfl)
  rw [lg_entry_eq]
  generalize (lg_sl ([.ref h0, .int v0, .int v1, .int v2]) ++ List.replicate (5 - (lg_sl ([.ref h0, .int v0, .int v1, .int v2])).length) Slot.unset).toArray = ls at hl ⊢
  have hl : lv_has ls 5 [(0, .ref h0), (1, .int v0), (2, .int v1), (3, .int v2)] := hl
  have kf28 := hts (.fieldLink RX5 28 "PebbleInShoe" "now" "LPebbleInShoe$Court;") (by decide +kernel)
  have hiX5 := (by decide +kernel : ∀ w ∈ wsX50, w ∈ wsX5_thick)
  refine lv_aload_n hx hb dX5_thick_0 rfl (lv_at hl 0 rfl) ?_
  refine va_get (D := G.1) (ci := 5) (v := .ref nw) (C := RX5) (T := TX5) (N := 8) hx hb hts hiX5 hown hK hP 0 rfl rfl 2 (by decide) kf28 (fun _ h9 => h9) rfl dX5_thick_1 ?_
  refine lv_iload_n hx hb dX5_thick_4 rfl (lv_at hl 1 rfl) ?_
  refine lv_iload_n hx hb dX5_thick_5 rfl (lv_at hl 2 rfl) ?_
  have hPc : va_P G.1 vwCl [(nw, .inr (0, [.ref tt, .ref n1, .ref n2, .ref n3, .ref n4, .ref n5, .ref n6, .ref n7, .ref n8, .int 0, .int 0, .int 0]))] s.heap := hP.sub [1] rfl
  have hDc : va_D A [(nw, .inr (0, [.ref tt, .ref n1, .ref n2, .ref n3, .ref n4, .ref n5, .ref n6, .ref n7, .ref n8, .int 0, .int 0, .int 0]))] := hD.sub [1] (by decide) rfl
  have hFc := va_free (wc := [(nw, .inr (0, [.ref tt, .ref n1, .ref n2, .ref n3, .ref n4, .ref n5, .ref n6, .ref n7, .ref n8, .int 0, .int 0, .int 0]))]) hD hS hA [1] rfl
  refine va_calli (va_runV (As := [.int v0, .int v1]) (rest := []) ⟨hx, hb, hml, hown, hts⟩ (c_X0_hasBoth_0 l G nw tt n1 n2 n3 n4 n5 n6 n7 n8 v0 v1 s.heap.size) (cwV 2 hts gX5_thick_X0_hasBoth rfl rfl rfl (by decide +kernel) ⟨Nat.le_of_ble_eq_true rfl, Nat.le_of_ble_eq_true rfl⟩) ⟨gPre_blind, va_recv hK hPc (ci := 0) (q0 := 0) rfl rfl, fun U hU hW => gPre_of hU hW hK hPc hDc⟩ rfl rfl hl.1 rfl (lv_room (Nat.le_of_ble_eq_true rfl)) dX5_thick_6 ⟨Nat.le_of_ble_eq_true rfl, Nat.le_of_ble_eq_true rfl⟩) hS (fun q _ h => hFc q h) hFc (fun r_1 u t H locs ht hvm w_2 hB hz1 hk1 hS => ?_)
  obtain ⟨hP1, hK1, hD1⟩ := hB
  rw [ht] at hP1
  have hP1 : va_P G.1 vwCl [(nw, .inr (0, [.ref tt, .ref n1, .ref n2, .ref n3, .ref n4, .ref n5, .ref n6, .ref n7, .ref n8, .int 0, .int 0, .int 0]))] H := hP1
  have hD1 : va_D (va_A [(nw, .inr (0, [.ref tt, .ref n1, .ref n2, .ref n3, .ref n4, .ref n5, .ref n6, .ref n7, .ref n8, .int 0, .int 0, .int 0]))] s.heap.size) [(nw, .inr (0, [.ref tt, .ref n1, .ref n2, .ref n3, .ref n4, .ref n5, .ref n6, .ref n7, .ref n8, .int 0, .int 0, .int 0]))] := hD1
  have w_2 : r_1 = 0 := w_2
  obtain ⟨hP, hD⟩ := va_join (wr := [(h0, .inr (5, [.ref tt, .ref rd, .ref nw, .ref th, .ref kp, .ref sh, .ref tu, .int 0]))]) (w1 := [(nw, .inr (0, [.ref tt, .ref n1, .ref n2, .ref n3, .ref n4, .ref n5, .ref n6, .ref n7, .ref n8, .int 0, .int 0, .int 0]))]) hP hD [1] [0] rfl rfl (by decide) (by decide) hk1 hFc hP1 hD1
  have hP : va_P G.1 vwCl [(h0, .inr (5, [.ref tt, .ref rd, .ref nw, .ref th, .ref kp, .ref sh, .ref tu, .int 0])), (nw, .inr (0, [.ref tt, .ref n1, .ref n2, .ref n3, .ref n4, .ref n5, .ref n6, .ref n7, .ref n8, .int 0, .int 0, .int 0]))] H := hP
  have hD : va_D A [(h0, .inr (5, [.ref tt, .ref rd, .ref nw, .ref th, .ref kp, .ref sh, .ref tu, .int 0])), (nw, .inr (0, [.ref tt, .ref n1, .ref n2, .ref n3, .ref n4, .ref n5, .ref n6, .ref n7, .ref n8, .int 0, .int 0, .int 0]))] := hD
  have w_2 : r_1 = 0 := w_2
  subst w_2
  refine lv_if_ne (tgt := 15) hx hb dX5_thick_9 (by decide) (fun c_3 => ?_) (fun c_3 => ?_)
  · exact absurd (by decide) c_3
  refine lv_bipush (v := -5) hx hb dX5_thick_12 (by decide) ?_
  have hpost : (fun (r : Int32) (u : Unit) => match u with | _ => r = -5) (-5) () := pp_X5_thick_0_1 v0 v1 v2 
  exact W.iret (v := (-5)) hx hb hr (fun t ht hW => ⟨⟨(-5), (), rfl, hpost, trivial⟩, hS.F ht⟩) hS.2.2 dX5_thick_14
theorem pp_X5_order_0_1 (v0 : Int32) (v1 : Int32) (v2 : Int32) : ((-5) : Int32) = -5 := by
  first
    | rfl
    | exact bz_pos (by (first | omega | (simp only [Int32.lt_iff_toInt_lt, Int32.le_iff_toInt_le, ← Int32.toInt_inj, Int32.reduceToInt] at * <;> omega)))
    | exact bz_neg (by (first | omega | (simp only [Int32.lt_iff_toInt_lt, Int32.le_iff_toInt_le, ← Int32.toInt_inj, Int32.reduceToInt] at * <;> omega)))
    | ((repeat' split) <;> first | rfl | assumption | (symm; assumption) | (exfalso; (first | omega | (simp only [Int32.lt_iff_toInt_lt, Int32.le_iff_toInt_le, ← Int32.toInt_inj, Int32.reduceToInt] at * <;> omega))))
abbrev q_X5_order_0 (G : gG) (h0 tt rd nw th kp sh tu n1 n2 n3 n4 n5 n6 n7 n8 : Nat) (v0 : Int32) (v1 : Int32) (v2 : Int32) (A : Nat → Prop) : Array Value → State → Outcome → State → Prop := va_Qi (fun (r : Int32) (u : Unit) => match u with | _ => r = -5) (fun (u : Unit) t => match u with | _ => True) A
set_option maxHeartbeats 4000000 in
set_option maxRecDepth 100000 in
theorem c_X5_order_0 (l : Launch) (G : gG) (h0 tt rd nw th kp sh tu n1 n2 n3 n4 n5 n6 n7 n8 : Nat) (v0 : Int32) (v1 : Int32) (v2 : Int32) (sz : Nat) : Met l yX5_order wsX5_order ({ frames := 1, cells := 0, slots := 0, locals := 21 }) (gPre G [.ref h0, .int v0, .int v1, .int v2] [(h0, .inr (5, [.ref tt, .ref rd, .ref nw, .ref th, .ref kp, .ref sh, .ref tu, .int 0])), (nw, .inr (0, [.ref tt, .ref n1, .ref n2, .ref n3, .ref n4, .ref n5, .ref n6, .ref n7, .ref n8, .int 0, .int 0, .int 0]))] sz) (q_X5_order_0 G h0 tt rd nw th kp sh tu n1 n2 n3 n4 n5 n6 n7 n8 v0 v1 v2 (va_A [(h0, .inr (5, [.ref tt, .ref rd, .ref nw, .ref th, .ref kp, .ref sh, .ref tu, .int 0])), (nw, .inr (0, [.ref tt, .ref n1, .ref n2, .ref n3, .ref n4, .ref n5, .ref n6, .ref n7, .ref n8, .int 0, .int 0, .int 0]))] sz)) 0 0 (va_A [(h0, .inr (5, [.ref tt, .ref rd, .ref nw, .ref th, .ref kp, .ref sh, .ref tu, .int 0])), (nw, .inr (0, [.ref tt, .ref n1, .ref n2, .ref n3, .ref n4, .ref n5, .ref n6, .ref n7, .ref n8, .int 0, .int 0, .int 0]))] sz) := by
  refine Met.ofW (cc := cX5_order) (maxL := 4) (ret := (some .int)) (by decide) rfl ?_
  intro p e s m args below meth c s₁ B hml hv
  obtain ⟨rfl, hsz, hP, hK, hD0⟩ := hv
  have hx := B.exec
  have hb := B.bytes
  have hr := B.returns
  have hts := atoms_spec (ws := wsX5_order) B.pre
  have hown : s.vm.findClass RX5 = some m.cls := findClass_of_methodNamed B.named
  have hlocks := B.notSynchronized
  subst hsz
  have hD := hD0.self (sz := s.heap.size)
  generalize hAe : va_A [(h0, .inr (5, [.ref tt, .ref rd, .ref nw, .ref th, .ref kp, .ref sh, .ref tu, .int 0])), (nw, .inr (0, [.ref tt, .ref n1, .ref n2, .ref n3, .ref n4, .ref n5, .ref n6, .ref n7, .ref n8, .int 0, .int 0, .int 0]))] s.heap.size = A at hD ⊢
  have hA : ∀ q : Nat, s.heap.size ≤ q → A q := fun q h => by rw [← hAe]; exact Or.inr h
  have hS : va_S A s.heap s.heap [] := va_S.rf
  have hP : va_P G.1 vwCl [(h0, .inr (5, [.ref tt, .ref rd, .ref nw, .ref th, .ref kp, .ref sh, .ref tu, .int 0])), (nw, .inr (0, [.ref tt, .ref n1, .ref n2, .ref n3, .ref n4, .ref n5, .ref n6, .ref n7, .ref n8, .int 0, .int 0, .int 0]))] s.heap := hP
  have hD : va_D A [(h0, .inr (5, [.ref tt, .ref rd, .ref nw, .ref th, .ref kp, .ref sh, .ref tu, .int 0])), (nw, .inr (0, [.ref tt, .ref n1, .ref n2, .ref n3, .ref n4, .ref n5, .ref n6, .ref n7, .ref n8, .int 0, .int 0, .int 0]))] := hD
  have hl := lv_entry ([.ref h0, .int v0, .int v1, .int v2]) (n := 4) (Nat.le_of_ble_eq_true rfl)
  rw [lg_entry_eq]
  generalize (lg_sl ([.ref h0, .int v0, .int v1, .int v2]) ++ List.replicate (4 - (lg_sl ([.ref h0, .int v0, .int v1, .int v2])).length) Slot.unset).toArray = ls at hl ⊢
  have hl : lv_has ls 4 [(0, .ref h0), (1, .int v0), (2, .int v1), (3, .int v2)] := hl
  have kf28 := hts (.fieldLink RX5 28 "PebbleInShoe" "now" "LPebbleInShoe$Court;") (by decide +kernel)
  have hiX5 := (by decide +kernel : ∀ w ∈ wsX50, w ∈ wsX5_order)
  refine lv_aload_n hx hb dX5_order_0 rfl (lv_at hl 0 rfl) ?_
  refine va_get (D := G.1) (ci := 5) (v := .ref nw) (C := RX5) (T := TX5) (N := 8) hx hb hts hiX5 hown hK hP 0 rfl rfl 2 (by decide) kf28 (fun _ h9 => h9) rfl dX5_order_1 ?_
  refine lv_iload_n hx hb dX5_order_4 rfl (lv_at hl 1 rfl) ?_
  have hPc : va_P G.1 vwCl [(nw, .inr (0, [.ref tt, .ref n1, .ref n2, .ref n3, .ref n4, .ref n5, .ref n6, .ref n7, .ref n8, .int 0, .int 0, .int 0]))] s.heap := hP.sub [1] rfl
  have hDc : va_D A [(nw, .inr (0, [.ref tt, .ref n1, .ref n2, .ref n3, .ref n4, .ref n5, .ref n6, .ref n7, .ref n8, .int 0, .int 0, .int 0]))] := hD.sub [1] (by decide) rfl
  have hFc := va_free (wc := [(nw, .inr (0, [.ref tt, .ref n1, .ref n2, .ref n3, .ref n4, .ref n5, .ref n6, .ref n7, .ref n8, .int 0, .int 0, .int 0]))]) hD hS hA [1] rfl
  refine va_calli (va_runV (As := [.int v0]) (rest := []) ⟨hx, hb, hml, hown, hts⟩ (c_X0_hasJudge_0 l G nw tt n1 n2 n3 n4 n5 n6 n7 n8 v0 s.heap.size) (cwV 1 hts gX5_order_X0_hasJudge rfl rfl rfl (by decide +kernel) ⟨Nat.le_of_ble_eq_true rfl, Nat.le_of_ble_eq_true rfl⟩) ⟨gPre_blind, va_recv hK hPc (ci := 0) (q0 := 0) rfl rfl, fun U hU hW => gPre_of hU hW hK hPc hDc⟩ rfl rfl hl.1 rfl (lv_room (Nat.le_of_ble_eq_true rfl)) dX5_order_5 ⟨Nat.le_of_ble_eq_true rfl, Nat.le_of_ble_eq_true rfl⟩) hS (fun q _ h => hFc q h) hFc (fun r_1 u t H locs ht hvm w_2 hB hz1 hk1 hS => ?_)
  obtain ⟨hP1, hK1, hD1⟩ := hB
  rw [ht] at hP1
  have hP1 : va_P G.1 vwCl [(nw, .inr (0, [.ref tt, .ref n1, .ref n2, .ref n3, .ref n4, .ref n5, .ref n6, .ref n7, .ref n8, .int 0, .int 0, .int 0]))] H := hP1
  have hD1 : va_D (va_A [(nw, .inr (0, [.ref tt, .ref n1, .ref n2, .ref n3, .ref n4, .ref n5, .ref n6, .ref n7, .ref n8, .int 0, .int 0, .int 0]))] s.heap.size) [(nw, .inr (0, [.ref tt, .ref n1, .ref n2, .ref n3, .ref n4, .ref n5, .ref n6, .ref n7, .ref n8, .int 0, .int 0, .int 0]))] := hD1
  have w_2 : r_1 = 0 := w_2
  obtain ⟨hP, hD⟩ := va_join (wr := [(h0, .inr (5, [.ref tt, .ref rd, .ref nw, .ref th, .ref kp, .ref sh, .ref tu, .int 0]))]) (w1 := [(nw, .inr (0, [.ref tt, .ref n1, .ref n2, .ref n3, .ref n4, .ref n5, .ref n6, .ref n7, .ref n8, .int 0, .int 0, .int 0]))]) hP hD [1] [0] rfl rfl (by decide) (by decide) hk1 hFc hP1 hD1
  have hP : va_P G.1 vwCl [(h0, .inr (5, [.ref tt, .ref rd, .ref nw, .ref th, .ref kp, .ref sh, .ref tu, .int 0])), (nw, .inr (0, [.ref tt, .ref n1, .ref n2, .ref n3, .ref n4, .ref n5, .ref n6, .ref n7, .ref n8, .int 0, .int 0, .int 0]))] H := hP
  have hD : va_D A [(h0, .inr (5, [.ref tt, .ref rd, .ref nw, .ref th, .ref kp, .ref sh, .ref tu, .int 0])), (nw, .inr (0, [.ref tt, .ref n1, .ref n2, .ref n3, .ref n4, .ref n5, .ref n6, .ref n7, .ref n8, .int 0, .int 0, .int 0]))] := hD
  have w_2 : r_1 = 0 := w_2
  subst w_2
  refine lv_if_ne (tgt := 14) hx hb dX5_order_8 (by decide) (fun c_3 => ?_) (fun c_3 => ?_)
  · exact absurd (by decide) c_3
  refine lv_bipush (v := -5) hx hb dX5_order_11 (by decide) ?_
  have hpost : (fun (r : Int32) (u : Unit) => match u with | _ => r = -5) (-5) () := pp_X5_order_0_1 v0 v1 v2 
  exact W.iret (v := (-5)) hx hb hr (fun t ht hW => ⟨⟨(-5), (), rfl, hpost, trivial⟩, hS.F ht⟩) hS.2.2 dX5_order_13
theorem pp_X5_counsel_0_1 (v0 : Int32) (v1 : Int32) (v2 : Int32) : ((-5) : Int32) = -5 := by
  first
    | rfl
    | exact bz_pos (by (first | omega | (simp only [Int32.lt_iff_toInt_lt, Int32.le_iff_toInt_le, ← Int32.toInt_inj, Int32.reduceToInt] at * <;> omega)))
    | exact bz_neg (by (first | omega | (simp only [Int32.lt_iff_toInt_lt, Int32.le_iff_toInt_le, ← Int32.toInt_inj, Int32.reduceToInt] at * <;> omega)))
    | ((repeat' split) <;> first | rfl | assumption | (symm; assumption) | (exfalso; (first | omega | (simp only [Int32.lt_iff_toInt_lt, Int32.le_iff_toInt_le, ← Int32.toInt_inj, Int32.reduceToInt] at * <;> omega))))
abbrev q_X5_counsel_0 (G : gG) (h0 tt rd nw th kp sh tu n1 n2 n3 n4 n5 n6 n7 n8 : Nat) (v0 : Int32) (v1 : Int32) (v2 : Int32) (A : Nat → Prop) : Array Value → State → Outcome → State → Prop := va_Qi (fun (r : Int32) (u : Unit) => match u with | _ => r = -5) (fun (u : Unit) t => match u with | _ => True) A
set_option maxHeartbeats 4000000 in
set_option maxRecDepth 100000 in
theorem c_X5_counsel_0 (l : Launch) (G : gG) (h0 tt rd nw th kp sh tu n1 n2 n3 n4 n5 n6 n7 n8 : Nat) (v0 : Int32) (v1 : Int32) (v2 : Int32) (sz : Nat) : Met l yX5_counsel wsX5_counsel ({ frames := 1, cells := 0, slots := 0, locals := 21 }) (gPre G [.ref h0, .int v0, .int v1, .int v2] [(h0, .inr (5, [.ref tt, .ref rd, .ref nw, .ref th, .ref kp, .ref sh, .ref tu, .int 0])), (nw, .inr (0, [.ref tt, .ref n1, .ref n2, .ref n3, .ref n4, .ref n5, .ref n6, .ref n7, .ref n8, .int 0, .int 0, .int 0]))] sz) (q_X5_counsel_0 G h0 tt rd nw th kp sh tu n1 n2 n3 n4 n5 n6 n7 n8 v0 v1 v2 (va_A [(h0, .inr (5, [.ref tt, .ref rd, .ref nw, .ref th, .ref kp, .ref sh, .ref tu, .int 0])), (nw, .inr (0, [.ref tt, .ref n1, .ref n2, .ref n3, .ref n4, .ref n5, .ref n6, .ref n7, .ref n8, .int 0, .int 0, .int 0]))] sz)) 0 0 (va_A [(h0, .inr (5, [.ref tt, .ref rd, .ref nw, .ref th, .ref kp, .ref sh, .ref tu, .int 0])), (nw, .inr (0, [.ref tt, .ref n1, .ref n2, .ref n3, .ref n4, .ref n5, .ref n6, .ref n7, .ref n8, .int 0, .int 0, .int 0]))] sz) := by
  refine Met.ofW (cc := cX5_counsel) (maxL := 4) (ret := (some .int)) (by decide) rfl ?_
  intro p e s m args below meth c s₁ B hml hv
  obtain ⟨rfl, hsz, hP, hK, hD0⟩ := hv
  have hx := B.exec
  have hb := B.bytes
  have hr := B.returns
  have hts := atoms_spec (ws := wsX5_counsel) B.pre
  have hown : s.vm.findClass RX5 = some m.cls := findClass_of_methodNamed B.named
  have hlocks := B.notSynchronized
  subst hsz
  have hD := hD0.self (sz := s.heap.size)
  generalize hAe : va_A [(h0, .inr (5, [.ref tt, .ref rd, .ref nw, .ref th, .ref kp, .ref sh, .ref tu, .int 0])), (nw, .inr (0, [.ref tt, .ref n1, .ref n2, .ref n3, .ref n4, .ref n5, .ref n6, .ref n7, .ref n8, .int 0, .int 0, .int 0]))] s.heap.size = A at hD ⊢
  have hA : ∀ q : Nat, s.heap.size ≤ q → A q := fun q h => by rw [← hAe]; exact Or.inr h
  have hS : va_S A s.heap s.heap [] := va_S.rf
  have hP : va_P G.1 vwCl [(h0, .inr (5, [.ref tt, .ref rd, .ref nw, .ref th, .ref kp, .ref sh, .ref tu, .int 0])), (nw, .inr (0, [.ref tt, .ref n1, .ref n2, .ref n3, .ref n4, .ref n5, .ref n6, .ref n7, .ref n8, .int 0, .int 0, .int 0]))] s.heap := hP
  have hD : va_D A [(h0, .inr (5, [.ref tt, .ref rd, .ref nw, .ref th, .ref kp, .ref sh, .ref tu, .int 0])), (nw, .inr (0, [.ref tt, .ref n1, .ref n2, .ref n3, .ref n4, .ref n5, .ref n6, .ref n7, .ref n8, .int 0, .int 0, .int 0]))] := hD
  have hl := lv_entry ([.ref h0, .int v0, .int v1, .int v2]) (n := 4) (Nat.le_of_ble_eq_true rfl)
  rw [lg_entry_eq]
  generalize (lg_sl ([.ref h0, .int v0, .int v1, .int v2]) ++ List.replicate (4 - (lg_sl ([.ref h0, .int v0, .int v1, .int v2])).length) Slot.unset).toArray = ls at hl ⊢
  have hl : lv_has ls 4 [(0, .ref h0), (1, .int v0), (2, .int v1), (3, .int v2)] := hl
  have kf28 := hts (.fieldLink RX5 28 "PebbleInShoe" "now" "LPebbleInShoe$Court;") (by decide +kernel)
  have hiX5 := (by decide +kernel : ∀ w ∈ wsX50, w ∈ wsX5_counsel)
  refine lv_aload_n hx hb dX5_counsel_0 rfl (lv_at hl 0 rfl) ?_
  refine va_get (D := G.1) (ci := 5) (v := .ref nw) (C := RX5) (T := TX5) (N := 8) hx hb hts hiX5 hown hK hP 0 rfl rfl 2 (by decide) kf28 (fun _ h9 => h9) rfl dX5_counsel_1 ?_
  refine lv_iload_n hx hb dX5_counsel_4 rfl (lv_at hl 1 rfl) ?_
  have hPc : va_P G.1 vwCl [(nw, .inr (0, [.ref tt, .ref n1, .ref n2, .ref n3, .ref n4, .ref n5, .ref n6, .ref n7, .ref n8, .int 0, .int 0, .int 0]))] s.heap := hP.sub [1] rfl
  have hDc : va_D A [(nw, .inr (0, [.ref tt, .ref n1, .ref n2, .ref n3, .ref n4, .ref n5, .ref n6, .ref n7, .ref n8, .int 0, .int 0, .int 0]))] := hD.sub [1] (by decide) rfl
  have hFc := va_free (wc := [(nw, .inr (0, [.ref tt, .ref n1, .ref n2, .ref n3, .ref n4, .ref n5, .ref n6, .ref n7, .ref n8, .int 0, .int 0, .int 0]))]) hD hS hA [1] rfl
  refine va_calli (va_runV (As := [.int v0]) (rest := []) ⟨hx, hb, hml, hown, hts⟩ (c_X0_hasJudge_0 l G nw tt n1 n2 n3 n4 n5 n6 n7 n8 v0 s.heap.size) (cwV 1 hts gX5_counsel_X0_hasJudge rfl rfl rfl (by decide +kernel) ⟨Nat.le_of_ble_eq_true rfl, Nat.le_of_ble_eq_true rfl⟩) ⟨gPre_blind, va_recv hK hPc (ci := 0) (q0 := 0) rfl rfl, fun U hU hW => gPre_of hU hW hK hPc hDc⟩ rfl rfl hl.1 rfl (lv_room (Nat.le_of_ble_eq_true rfl)) dX5_counsel_5 ⟨Nat.le_of_ble_eq_true rfl, Nat.le_of_ble_eq_true rfl⟩) hS (fun q _ h => hFc q h) hFc (fun r_1 u t H locs ht hvm w_2 hB hz1 hk1 hS => ?_)
  obtain ⟨hP1, hK1, hD1⟩ := hB
  rw [ht] at hP1
  have hP1 : va_P G.1 vwCl [(nw, .inr (0, [.ref tt, .ref n1, .ref n2, .ref n3, .ref n4, .ref n5, .ref n6, .ref n7, .ref n8, .int 0, .int 0, .int 0]))] H := hP1
  have hD1 : va_D (va_A [(nw, .inr (0, [.ref tt, .ref n1, .ref n2, .ref n3, .ref n4, .ref n5, .ref n6, .ref n7, .ref n8, .int 0, .int 0, .int 0]))] s.heap.size) [(nw, .inr (0, [.ref tt, .ref n1, .ref n2, .ref n3, .ref n4, .ref n5, .ref n6, .ref n7, .ref n8, .int 0, .int 0, .int 0]))] := hD1
  have w_2 : r_1 = 0 := w_2
  obtain ⟨hP, hD⟩ := va_join (wr := [(h0, .inr (5, [.ref tt, .ref rd, .ref nw, .ref th, .ref kp, .ref sh, .ref tu, .int 0]))]) (w1 := [(nw, .inr (0, [.ref tt, .ref n1, .ref n2, .ref n3, .ref n4, .ref n5, .ref n6, .ref n7, .ref n8, .int 0, .int 0, .int 0]))]) hP hD [1] [0] rfl rfl (by decide) (by decide) hk1 hFc hP1 hD1
  have hP : va_P G.1 vwCl [(h0, .inr (5, [.ref tt, .ref rd, .ref nw, .ref th, .ref kp, .ref sh, .ref tu, .int 0])), (nw, .inr (0, [.ref tt, .ref n1, .ref n2, .ref n3, .ref n4, .ref n5, .ref n6, .ref n7, .ref n8, .int 0, .int 0, .int 0]))] H := hP
  have hD : va_D A [(h0, .inr (5, [.ref tt, .ref rd, .ref nw, .ref th, .ref kp, .ref sh, .ref tu, .int 0])), (nw, .inr (0, [.ref tt, .ref n1, .ref n2, .ref n3, .ref n4, .ref n5, .ref n6, .ref n7, .ref n8, .int 0, .int 0, .int 0]))] := hD
  have w_2 : r_1 = 0 := w_2
  subst w_2
  refine lv_if_ne (tgt := 14) hx hb dX5_counsel_8 (by decide) (fun c_3 => ?_) (fun c_3 => ?_)
  · exact absurd (by decide) c_3
  refine lv_bipush (v := -5) hx hb dX5_counsel_11 (by decide) ?_
  have hpost : (fun (r : Int32) (u : Unit) => match u with | _ => r = -5) (-5) () := pp_X5_counsel_0_1 v0 v1 v2 
  exact W.iret (v := (-5)) hx hb hr (fun t ht hW => ⟨⟨(-5), (), rfl, hpost, trivial⟩, hS.F ht⟩) hS.2.2 dX5_counsel_13
theorem pp_X5_drawn_0_1 (v0 : Int32) (v1 : Int32) (v2 : Int32) (v3 : Int32) (v4 : Int32) : ((-5) : Int32) = -5 := by
  first
    | rfl
    | exact bz_pos (by (first | omega | (simp only [Int32.lt_iff_toInt_lt, Int32.le_iff_toInt_le, ← Int32.toInt_inj, Int32.reduceToInt] at * <;> omega)))
    | exact bz_neg (by (first | omega | (simp only [Int32.lt_iff_toInt_lt, Int32.le_iff_toInt_le, ← Int32.toInt_inj, Int32.reduceToInt] at * <;> omega)))
    | ((repeat' split) <;> first | rfl | assumption | (symm; assumption) | (exfalso; (first | omega | (simp only [Int32.lt_iff_toInt_lt, Int32.le_iff_toInt_le, ← Int32.toInt_inj, Int32.reduceToInt] at * <;> omega))))
abbrev q_X5_drawn_0 (G : gG) (h0 tt rd nw th kp sh tu n1 n2 n3 n4 n5 n6 n7 n8 : Nat) (v0 : Int32) (v1 : Int32) (v2 : Int32) (v3 : Int32) (v4 : Int32) (A : Nat → Prop) : Array Value → State → Outcome → State → Prop := va_Qi (fun (r : Int32) (u : Unit) => match u with | _ => r = -5) (fun (u : Unit) t => match u with | _ => True) A
set_option maxHeartbeats 4000000 in
set_option maxRecDepth 100000 in
theorem c_X5_drawn_0 (l : Launch) (G : gG) (h0 tt rd nw th kp sh tu n1 n2 n3 n4 n5 n6 n7 n8 : Nat) (v0 : Int32) (v1 : Int32) (v2 : Int32) (v3 : Int32) (v4 : Int32) (sz : Nat) : Met l yX5_drawn wsX5_drawn ({ frames := 2, cells := 0, slots := 0, locals := 43 }) (gPre G [.ref h0, .int v0, .int v1, .int v2, .int v3, .int v4] [(h0, .inr (5, [.ref tt, .ref rd, .ref nw, .ref th, .ref kp, .ref sh, .ref tu, .int 0])), (nw, .inr (0, [.ref tt, .ref n1, .ref n2, .ref n3, .ref n4, .ref n5, .ref n6, .ref n7, .ref n8, .int 0, .int 0, .int 0]))] sz) (q_X5_drawn_0 G h0 tt rd nw th kp sh tu n1 n2 n3 n4 n5 n6 n7 n8 v0 v1 v2 v3 v4 (va_A [(h0, .inr (5, [.ref tt, .ref rd, .ref nw, .ref th, .ref kp, .ref sh, .ref tu, .int 0])), (nw, .inr (0, [.ref tt, .ref n1, .ref n2, .ref n3, .ref n4, .ref n5, .ref n6, .ref n7, .ref n8, .int 0, .int 0, .int 0]))] sz)) 0 0 (va_A [(h0, .inr (5, [.ref tt, .ref rd, .ref nw, .ref th, .ref kp, .ref sh, .ref tu, .int 0])), (nw, .inr (0, [.ref tt, .ref n1, .ref n2, .ref n3, .ref n4, .ref n5, .ref n6, .ref n7, .ref n8, .int 0, .int 0, .int 0]))] sz) := by
  refine Met.ofW (cc := cX5_drawn) (maxL := 7) (ret := (some .int)) (by decide) rfl ?_
  intro p e s m args below meth c s₁ B hml hv
  obtain ⟨rfl, hsz, hP, hK, hD0⟩ := hv
  have hx := B.exec
  have hb := B.bytes
  have hr := B.returns
  have hts := atoms_spec (ws := wsX5_drawn) B.pre
  have hown : s.vm.findClass RX5 = some m.cls := findClass_of_methodNamed B.named
  have hlocks := B.notSynchronized
  subst hsz
  have hD := hD0.self (sz := s.heap.size)
  generalize hAe : va_A [(h0, .inr (5, [.ref tt, .ref rd, .ref nw, .ref th, .ref kp, .ref sh, .ref tu, .int 0])), (nw, .inr (0, [.ref tt, .ref n1, .ref n2, .ref n3, .ref n4, .ref n5, .ref n6, .ref n7, .ref n8, .int 0, .int 0, .int 0]))] s.heap.size = A at hD ⊢
  have hA : ∀ q : Nat, s.heap.size ≤ q → A q := fun q h => by rw [← hAe]; exact Or.inr h
  have hS : va_S A s.heap s.heap [] := va_S.rf
  have hP : va_P G.1 vwCl [(h0, .inr (5, [.ref tt, .ref rd, .ref nw, .ref th, .ref kp, .ref sh, .ref tu, .int 0])), (nw, .inr (0, [.ref tt, .ref n1, .ref n2, .ref n3, .ref n4, .ref n5, .ref n6, .ref n7, .ref n8, .int 0, .int 0, .int 0]))] s.heap := hP
  have hD : va_D A [(h0, .inr (5, [.ref tt, .ref rd, .ref nw, .ref th, .ref kp, .ref sh, .ref tu, .int 0])), (nw, .inr (0, [.ref tt, .ref n1, .ref n2, .ref n3, .ref n4, .ref n5, .ref n6, .ref n7, .ref n8, .int 0, .int 0, .int 0]))] := hD
  have hl := lv_entry ([.ref h0, .int v0, .int v1, .int v2, .int v3, .int v4]) (n := 7) (Nat.le_of_ble_eq_true rfl)
  rw [lg_entry_eq]
  generalize (lg_sl ([.ref h0, .int v0, .int v1, .int v2, .int v3, .int v4]) ++ List.replicate (7 - (lg_sl ([.ref h0, .int v0, .int v1, .int v2, .int v3, .int v4])).length) Slot.unset).toArray = ls at hl ⊢
  have hl : lv_has ls 7 [(0, .ref h0), (1, .int v0), (2, .int v1), (3, .int v2), (4, .int v3), (5, .int v4)] := hl
  have kf28 := hts (.fieldLink RX5 28 "PebbleInShoe" "now" "LPebbleInShoe$Court;") (by decide +kernel)
  have hiX5 := (by decide +kernel : ∀ w ∈ wsX50, w ∈ wsX5_drawn)
  refine lv_aload_n hx hb dX5_drawn_0 rfl (lv_at hl 0 rfl) ?_
  refine va_get (D := G.1) (ci := 5) (v := .ref nw) (C := RX5) (T := TX5) (N := 8) hx hb hts hiX5 hown hK hP 0 rfl rfl 2 (by decide) kf28 (fun _ h9 => h9) rfl dX5_drawn_1 ?_
  refine lv_iload_n hx hb dX5_drawn_4 rfl (lv_at hl 2 rfl) ?_
  refine lv_iload_n hx hb dX5_drawn_5 rfl (lv_at hl 3 rfl) ?_
  have hPc : va_P G.1 vwCl [(nw, .inr (0, [.ref tt, .ref n1, .ref n2, .ref n3, .ref n4, .ref n5, .ref n6, .ref n7, .ref n8, .int 0, .int 0, .int 0]))] s.heap := hP.sub [1] rfl
  have hDc : va_D A [(nw, .inr (0, [.ref tt, .ref n1, .ref n2, .ref n3, .ref n4, .ref n5, .ref n6, .ref n7, .ref n8, .int 0, .int 0, .int 0]))] := hD.sub [1] (by decide) rfl
  have hFc := va_free (wc := [(nw, .inr (0, [.ref tt, .ref n1, .ref n2, .ref n3, .ref n4, .ref n5, .ref n6, .ref n7, .ref n8, .int 0, .int 0, .int 0]))]) hD hS hA [1] rfl
  refine va_calli (va_runV (As := [.int v1, .int v2]) (rest := []) ⟨hx, hb, hml, hown, hts⟩ (c_X0_hasBoth_0 l G nw tt n1 n2 n3 n4 n5 n6 n7 n8 v1 v2 s.heap.size) (cwV 2 hts gX5_drawn_X0_hasBoth rfl rfl rfl (by decide +kernel) ⟨Nat.le_of_ble_eq_true rfl, Nat.le_of_ble_eq_true rfl⟩) ⟨gPre_blind, va_recv hK hPc (ci := 0) (q0 := 0) rfl rfl, fun U hU hW => gPre_of hU hW hK hPc hDc⟩ rfl rfl hl.1 rfl (lv_room (Nat.le_of_ble_eq_true rfl)) dX5_drawn_6 ⟨Nat.le_of_ble_eq_true rfl, Nat.le_of_ble_eq_true rfl⟩) hS (fun q _ h => hFc q h) hFc (fun r_1 u t H locs ht hvm w_2 hB hz1 hk1 hS => ?_)
  obtain ⟨hP1, hK1, hD1⟩ := hB
  rw [ht] at hP1
  have hP1 : va_P G.1 vwCl [(nw, .inr (0, [.ref tt, .ref n1, .ref n2, .ref n3, .ref n4, .ref n5, .ref n6, .ref n7, .ref n8, .int 0, .int 0, .int 0]))] H := hP1
  have hD1 : va_D (va_A [(nw, .inr (0, [.ref tt, .ref n1, .ref n2, .ref n3, .ref n4, .ref n5, .ref n6, .ref n7, .ref n8, .int 0, .int 0, .int 0]))] s.heap.size) [(nw, .inr (0, [.ref tt, .ref n1, .ref n2, .ref n3, .ref n4, .ref n5, .ref n6, .ref n7, .ref n8, .int 0, .int 0, .int 0]))] := hD1
  have w_2 : r_1 = 0 := w_2
  obtain ⟨hP, hD⟩ := va_join (wr := [(h0, .inr (5, [.ref tt, .ref rd, .ref nw, .ref th, .ref kp, .ref sh, .ref tu, .int 0]))]) (w1 := [(nw, .inr (0, [.ref tt, .ref n1, .ref n2, .ref n3, .ref n4, .ref n5, .ref n6, .ref n7, .ref n8, .int 0, .int 0, .int 0]))]) hP hD [1] [0] rfl rfl (by decide) (by decide) hk1 hFc hP1 hD1
  have hP : va_P G.1 vwCl [(h0, .inr (5, [.ref tt, .ref rd, .ref nw, .ref th, .ref kp, .ref sh, .ref tu, .int 0])), (nw, .inr (0, [.ref tt, .ref n1, .ref n2, .ref n3, .ref n4, .ref n5, .ref n6, .ref n7, .ref n8, .int 0, .int 0, .int 0]))] H := hP
  have hD : va_D A [(h0, .inr (5, [.ref tt, .ref rd, .ref nw, .ref th, .ref kp, .ref sh, .ref tu, .int 0])), (nw, .inr (0, [.ref tt, .ref n1, .ref n2, .ref n3, .ref n4, .ref n5, .ref n6, .ref n7, .ref n8, .int 0, .int 0, .int 0]))] := hD
  have w_2 : r_1 = 0 := w_2
  subst w_2
  refine lv_if_ne (tgt := 15) hx hb dX5_drawn_9 (by decide) (fun c_3 => ?_) (fun c_3 => ?_)
  · exact absurd (by decide) c_3
  refine lv_bipush (v := -5) hx hb dX5_drawn_12 (by decide) ?_
  have hpost : (fun (r : Int32) (u : Unit) => match u with | _ => r = -5) (-5) () := pp_X5_drawn_0_1 v0 v1 v2 v3 v4 
  exact W.iret (v := (-5)) hx hb hr (fun t ht hW => ⟨⟨(-5), (), rfl, hpost, trivial⟩, hS.F ht⟩) hS.2.2 dX5_drawn_14
theorem pp_X5_odds_0_1 (v0 : Int32) (v1 : Int32) (v2 : Int32) (v3 : Int32) (v4 : Int32) (v5 : Int32) (n_5 : ¬ (0 ≤ v0 ∧ v0 ≤ 99999)) : ((-4611686018427387904) : Int64) = -4611686018427387904 := by
  first
    | rfl
    | exact bz_pos (by (first | omega | (simp only [Int32.lt_iff_toInt_lt, Int32.le_iff_toInt_le, ← Int32.toInt_inj, Int32.reduceToInt] at * <;> omega)))
    | exact bz_neg (by (first | omega | (simp only [Int32.lt_iff_toInt_lt, Int32.le_iff_toInt_le, ← Int32.toInt_inj, Int32.reduceToInt] at * <;> omega)))
    | ((repeat' split) <;> first | rfl | assumption | (symm; assumption) | (exfalso; (first | omega | (simp only [Int32.lt_iff_toInt_lt, Int32.le_iff_toInt_le, ← Int32.toInt_inj, Int32.reduceToInt] at * <;> omega))))
theorem pp_X5_odds_0_2 (v0 : Int32) (v1 : Int32) (v2 : Int32) (v3 : Int32) (v4 : Int32) (v5 : Int32) (p_4 : 0 ≤ v0 ∧ v0 ≤ 99999) (c_6 : v1 < 1) : ((-4611686018427387904) : Int64) = -4611686018427387904 := by
  first
    | rfl
    | exact bz_pos (by (first | omega | (simp only [Int32.lt_iff_toInt_lt, Int32.le_iff_toInt_le, ← Int32.toInt_inj, Int32.reduceToInt] at * <;> omega)))
    | exact bz_neg (by (first | omega | (simp only [Int32.lt_iff_toInt_lt, Int32.le_iff_toInt_le, ← Int32.toInt_inj, Int32.reduceToInt] at * <;> omega)))
    | ((repeat' split) <;> first | rfl | assumption | (symm; assumption) | (exfalso; (first | omega | (simp only [Int32.lt_iff_toInt_lt, Int32.le_iff_toInt_le, ← Int32.toInt_inj, Int32.reduceToInt] at * <;> omega))))
theorem pp_X5_odds_0_3 (v0 : Int32) (v1 : Int32) (v2 : Int32) (v3 : Int32) (v4 : Int32) (v5 : Int32) (p_4 : 0 ≤ v0 ∧ v0 ≤ 99999) (c_6 : ¬ (v1 < 1)) (c_7 : 40 < v1) : ((-4611686018427387904) : Int64) = -4611686018427387904 := by
  first
    | rfl
    | exact bz_pos (by (first | omega | (simp only [Int32.lt_iff_toInt_lt, Int32.le_iff_toInt_le, ← Int32.toInt_inj, Int32.reduceToInt] at * <;> omega)))
    | exact bz_neg (by (first | omega | (simp only [Int32.lt_iff_toInt_lt, Int32.le_iff_toInt_le, ← Int32.toInt_inj, Int32.reduceToInt] at * <;> omega)))
    | ((repeat' split) <;> first | rfl | assumption | (symm; assumption) | (exfalso; (first | omega | (simp only [Int32.lt_iff_toInt_lt, Int32.le_iff_toInt_le, ← Int32.toInt_inj, Int32.reduceToInt] at * <;> omega))))
theorem pp_X5_odds_0_4 (v0 : Int32) (v1 : Int32) (v2 : Int32) (v3 : Int32) (v4 : Int32) (v5 : Int32) (p_4 : 0 ≤ v0 ∧ v0 ≤ 99999) (c_6 : ¬ (v1 < 1)) (c_7 : ¬ (40 < v1)) (p_11 : 0 ≤ v5 ∧ v5 ≤ 1) : ((-4611686018427387904) : Int64) = -4611686018427387904 := by
  first
    | rfl
    | exact bz_pos (by (first | omega | (simp only [Int32.lt_iff_toInt_lt, Int32.le_iff_toInt_le, ← Int32.toInt_inj, Int32.reduceToInt] at * <;> omega)))
    | exact bz_neg (by (first | omega | (simp only [Int32.lt_iff_toInt_lt, Int32.le_iff_toInt_le, ← Int32.toInt_inj, Int32.reduceToInt] at * <;> omega)))
    | ((repeat' split) <;> first | rfl | assumption | (symm; assumption) | (exfalso; (first | omega | (simp only [Int32.lt_iff_toInt_lt, Int32.le_iff_toInt_le, ← Int32.toInt_inj, Int32.reduceToInt] at * <;> omega))))
theorem pp_X5_odds_0_5 (v0 : Int32) (v1 : Int32) (v2 : Int32) (v3 : Int32) (v4 : Int32) (v5 : Int32) (p_4 : 0 ≤ v0 ∧ v0 ≤ 99999) (c_6 : ¬ (v1 < 1)) (c_7 : ¬ (40 < v1)) (n_12 : ¬ (0 ≤ v5 ∧ v5 ≤ 1)) : ((-4611686018427387904) : Int64) = -4611686018427387904 := by
  first
    | rfl
    | exact bz_pos (by (first | omega | (simp only [Int32.lt_iff_toInt_lt, Int32.le_iff_toInt_le, ← Int32.toInt_inj, Int32.reduceToInt] at * <;> omega)))
    | exact bz_neg (by (first | omega | (simp only [Int32.lt_iff_toInt_lt, Int32.le_iff_toInt_le, ← Int32.toInt_inj, Int32.reduceToInt] at * <;> omega)))
    | ((repeat' split) <;> first | rfl | assumption | (symm; assumption) | (exfalso; (first | omega | (simp only [Int32.lt_iff_toInt_lt, Int32.le_iff_toInt_le, ← Int32.toInt_inj, Int32.reduceToInt] at * <;> omega))))
abbrev q_X5_odds_0 (G : gG) (h0 tt rd nw th kp sh tu n1 n2 n3 n4 n5 n6 n7 n8 : Nat) (v0 : Int32) (v1 : Int32) (v2 : Int32) (v3 : Int32) (v4 : Int32) (v5 : Int32) (A : Nat → Prop) : Array Value → State → Outcome → State → Prop := va_Ql (fun (r : Int64) (u : Unit) => match u with | _ => r = -4611686018427387904) (fun (u : Unit) t => match u with | _ => True) A
set_option maxHeartbeats 4000000 in
set_option maxRecDepth 100000 in
theorem c_X5_odds_0 (l : Launch) (G : gG) (h0 tt rd nw th kp sh tu n1 n2 n3 n4 n5 n6 n7 n8 : Nat) (v0 : Int32) (v1 : Int32) (v2 : Int32) (v3 : Int32) (v4 : Int32) (v5 : Int32) (sz : Nat) : Met l yX5_odds wsX5_odds ({ frames := 2, cells := 0, slots := 0, locals := 43 }) (gPre G [.ref h0, .int v0, .int v1, .int v2, .int v3, .int v4, .int v5] [(h0, .inr (5, [.ref tt, .ref rd, .ref nw, .ref th, .ref kp, .ref sh, .ref tu, .int 0])), (nw, .inr (0, [.ref tt, .ref n1, .ref n2, .ref n3, .ref n4, .ref n5, .ref n6, .ref n7, .ref n8, .int 0, .int 0, .int 0]))] sz) (q_X5_odds_0 G h0 tt rd nw th kp sh tu n1 n2 n3 n4 n5 n6 n7 n8 v0 v1 v2 v3 v4 v5 (va_A [(h0, .inr (5, [.ref tt, .ref rd, .ref nw, .ref th, .ref kp, .ref sh, .ref tu, .int 0])), (nw, .inr (0, [.ref tt, .ref n1, .ref n2, .ref n3, .ref n4, .ref n5, .ref n6, .ref n7, .ref n8, .int 0, .int 0, .int 0]))] sz)) 0 0 (va_A [(h0, .inr (5, [.ref tt, .ref rd, .ref nw, .ref th, .ref kp, .ref sh, .ref tu, .int 0])), (nw, .inr (0, [.ref tt, .ref n1, .ref n2, .ref n3, .ref n4, .ref n5, .ref n6, .ref n7, .ref n8, .int 0, .int 0, .int 0]))] sz) := by
  refine Met.ofW (cc := cX5_odds) (maxL := 9) (ret := (some .long)) (by decide) rfl ?_
  intro p e s m args below meth c s₁ B hml hv
  obtain ⟨rfl, hsz, hP, hK, hD0⟩ := hv
  have hx := B.exec
  have hb := B.bytes
  have hr := B.returns
  have hts := atoms_spec (ws := wsX5_odds) B.pre
  have hown : s.vm.findClass RX5 = some m.cls := findClass_of_methodNamed B.named
  have hlocks := B.notSynchronized
  subst hsz
  have hD := hD0.self (sz := s.heap.size)
  generalize hAe : va_A [(h0, .inr (5, [.ref tt, .ref rd, .ref nw, .ref th, .ref kp, .ref sh, .ref tu, .int 0])), (nw, .inr (0, [.ref tt, .ref n1, .ref n2, .ref n3, .ref n4, .ref n5, .ref n6, .ref n7, .ref n8, .int 0, .int 0, .int 0]))] s.heap.size = A at hD ⊢
  have hA : ∀ q : Nat, s.heap.size ≤ q → A q := fun q h => by rw [← hAe]; exact Or.inr h
  have hS : va_S A s.heap s.heap [] := va_S.rf
  have hP : va_P G.1 vwCl [(h0, .inr (5, [.ref tt, .ref rd, .ref nw, .ref th, .ref kp, .ref sh, .ref tu, .int 0])), (nw, .inr (0, [.ref tt, .ref n1, .ref n2, .ref n3, .ref n4, .ref n5, .ref n6, .ref n7, .ref n8, .int 0, .int 0, .int 0]))] s.heap := hP
  have hD : va_D A [(h0, .inr (5, [.ref tt, .ref rd, .ref nw, .ref th, .ref kp, .ref sh, .ref tu, .int 0])), (nw, .inr (0, [.ref tt, .ref n1, .ref n2, .ref n3, .ref n4, .ref n5, .ref n6, .ref n7, .ref n8, .int 0, .int 0, .int 0]))] := hD
  have hl := lv_entry ([.ref h0, .int v0, .int v1, .int v2, .int v3, .int v4, .int v5]) (n := 9) (Nat.le_of_ble_eq_true rfl)
  rw [lg_entry_eq]
  generalize (lg_sl ([.ref h0, .int v0, .int v1, .int v2, .int v3, .int v4, .int v5]) ++ List.replicate (9 - (lg_sl ([.ref h0, .int v0, .int v1, .int v2, .int v3, .int v4, .int v5])).length) Slot.unset).toArray = ls at hl ⊢
  have hl : lv_has ls 9 [(0, .ref h0), (1, .int v0), (2, .int v1), (3, .int v2), (4, .int v3), (5, .int v4), (6, .int v5)] := hl
  have kf28 := hts (.fieldLink RX5 28 "PebbleInShoe" "now" "LPebbleInShoe$Court;") (by decide +kernel)
  have hiX5 := (by decide +kernel : ∀ w ∈ wsX50, w ∈ wsX5_odds)
  refine lv_iload_n hx hb dX5_odds_0 rfl (lv_at hl 1 rfl) ?_
  refine lv_ldc hx hb hown (hts (.constant RX5 206 (99999)) (by decide +kernel)) dX5_odds_1 ?_
  have hPc : va_P G.1 vwCl [] s.heap := hP.sub [] rfl
  have hDc : va_D A [] := hD.sub [] (by decide) rfl
  have hFc := va_free (wc := []) hD hS hA [] rfl
  refine va_calli (va_runS (As := [.int v0, .int 99999]) (rest := []) ⟨hx, hb, hml, hown, hts⟩ (c_X5_within l G v0 99999 s.heap.size) (va_cwS 2 hts gX5_odds_X5_within rfl rfl rfl (by decide +kernel) ⟨Nat.le_of_ble_eq_true rfl, Nat.le_of_ble_eq_true rfl⟩) ⟨gPre_blind, fun U hU hW => gPre_of hU hW hK hPc hDc⟩ rfl rfl hl.1 rfl (lv_room (Nat.le_of_ble_eq_true rfl)) dX5_odds_3 ⟨Nat.le_of_ble_eq_true rfl, Nat.le_of_ble_eq_true rfl⟩) hS (fun q _ h => hFc q h) hFc (fun r_1 u t H locs ht hvm w_2 hB hz1 hk1 hS => ?_)
  obtain ⟨hP1, hK1, hD1⟩ := hB
  rw [ht] at hP1
  have hP1 : va_P G.1 vwCl [] H := hP1
  have hD1 : va_D (va_A [] s.heap.size) [] := hD1
  have w_2 : r_1 = bz (decide (0 ≤ v0 ∧ v0 ≤ 99999)) := w_2
  obtain ⟨hP, hD⟩ := va_join (wr := [(h0, .inr (5, [.ref tt, .ref rd, .ref nw, .ref th, .ref kp, .ref sh, .ref tu, .int 0])), (nw, .inr (0, [.ref tt, .ref n1, .ref n2, .ref n3, .ref n4, .ref n5, .ref n6, .ref n7, .ref n8, .int 0, .int 0, .int 0]))]) (w1 := []) hP hD [] [0, 1] rfl rfl (by decide) (by decide) hk1 hFc hP1 hD1
  have hP : va_P G.1 vwCl [(h0, .inr (5, [.ref tt, .ref rd, .ref nw, .ref th, .ref kp, .ref sh, .ref tu, .int 0])), (nw, .inr (0, [.ref tt, .ref n1, .ref n2, .ref n3, .ref n4, .ref n5, .ref n6, .ref n7, .ref n8, .int 0, .int 0, .int 0]))] H := hP
  have hD : va_D A [(h0, .inr (5, [.ref tt, .ref rd, .ref nw, .ref th, .ref kp, .ref sh, .ref tu, .int 0])), (nw, .inr (0, [.ref tt, .ref n1, .ref n2, .ref n3, .ref n4, .ref n5, .ref n6, .ref n7, .ref n8, .int 0, .int 0, .int 0]))] := hD
  refine lv_if_eq (tgt := 29) hx hb dX5_odds_6 (by decide) (fun c_3 => ?_) (fun c_3 => ?_)
  · skip
    have n_5 : ¬ (0 ≤ v0 ∧ v0 ≤ 99999) := of_decide_eq_false (bz_eq w_2 c_3)
    refine lv_ldc2 hx hb hown (hts (.constantLong RX5 213 (-4611686018427387904)) (by decide +kernel)) dX5_odds_29 ?_
    have hpost : (fun (r : Int64) (u : Unit) => match u with | _ => r = -4611686018427387904) (-4611686018427387904) () := pp_X5_odds_0_1 v0 v1 v2 v3 v4 v5 n_5
    exact W.lret (v := (-4611686018427387904)) hx hb hr (fun t ht hW => ⟨⟨(-4611686018427387904), (), rfl, hpost, trivial⟩, hS.F ht⟩) hS.2.2 dX5_odds_32
  · skip
    have p_4 : 0 ≤ v0 ∧ v0 ≤ 99999 := of_decide_eq_true (bz_ne w_2 c_3)
    refine lv_iload_n hx hb dX5_odds_9 rfl (lv_at hl 2 rfl) ?_
    refine lv_iconst (v := 1) hx hb dX5_odds_10 (by decide) ?_
    refine lv_icmp_lt (tgt := 29) hx hb dX5_odds_11 (by decide) (fun c_6 => ?_) (fun c_6 => ?_)
    · skip
      refine lv_ldc2 hx hb hown (hts (.constantLong RX5 213 (-4611686018427387904)) (by decide +kernel)) dX5_odds_29 ?_
      have hpost : (fun (r : Int64) (u : Unit) => match u with | _ => r = -4611686018427387904) (-4611686018427387904) () := pp_X5_odds_0_2 v0 v1 v2 v3 v4 v5 p_4 c_6
      exact W.lret (v := (-4611686018427387904)) hx hb hr (fun t ht hW => ⟨⟨(-4611686018427387904), (), rfl, hpost, trivial⟩, hS.F ht⟩) hS.2.2 dX5_odds_32
    · skip
      refine lv_iload_n hx hb dX5_odds_14 rfl (lv_at hl 2 rfl) ?_
      refine lv_bipush (v := 40) hx hb dX5_odds_15 (by decide) ?_
      refine lv_icmp_gt (tgt := 29) hx hb dX5_odds_17 (by decide) (fun c_7 => ?_) (fun c_7 => ?_)
      · skip
        refine lv_ldc2 hx hb hown (hts (.constantLong RX5 213 (-4611686018427387904)) (by decide +kernel)) dX5_odds_29 ?_
        have hpost : (fun (r : Int64) (u : Unit) => match u with | _ => r = -4611686018427387904) (-4611686018427387904) () := pp_X5_odds_0_3 v0 v1 v2 v3 v4 v5 p_4 c_6 c_7
        exact W.lret (v := (-4611686018427387904)) hx hb hr (fun t ht hW => ⟨⟨(-4611686018427387904), (), rfl, hpost, trivial⟩, hS.F ht⟩) hS.2.2 dX5_odds_32
      · skip
        refine lv_iload hx hb dX5_odds_20 (lv_at hl 6 rfl) ?_
        refine lv_iconst (v := 1) hx hb dX5_odds_22 (by decide) ?_
        have hPc : va_P G.1 vwCl [] H := hP.sub [] rfl
        have hDc : va_D A [] := hD.sub [] (by decide) rfl
        have hFc := va_free (wc := []) hD hS hA [] rfl
        refine va_calli (va_runS (As := [.int v5, .int 1]) (rest := []) ⟨hx, hb, hml, hown, hts⟩ (c_X5_within l G v5 1 H.size) (va_cwS 2 hts gX5_odds_X5_within rfl rfl rfl (by decide +kernel) ⟨Nat.le_of_ble_eq_true rfl, Nat.le_of_ble_eq_true rfl⟩) ⟨gPre_blind, fun U hU hW => gPre_of hU hW hK hPc hDc⟩ rfl rfl hl.1 rfl (lv_room (Nat.le_of_ble_eq_true rfl)) dX5_odds_23 ⟨Nat.le_of_ble_eq_true rfl, Nat.le_of_ble_eq_true rfl⟩) hS (fun q _ h => hFc q h) hFc (fun r_8 u t H locs ht hvm w_9 hB hz1 hk1 hS => ?_)
        obtain ⟨hP1, hK1, hD1⟩ := hB
        rw [ht] at hP1
        have hP1 : va_P G.1 vwCl [] H := hP1
        have hD1 : va_D (va_A [] _) [] := hD1
        have w_9 : r_8 = bz (decide (0 ≤ v5 ∧ v5 ≤ 1)) := w_9
        obtain ⟨hP, hD⟩ := va_join (wr := [(h0, .inr (5, [.ref tt, .ref rd, .ref nw, .ref th, .ref kp, .ref sh, .ref tu, .int 0])), (nw, .inr (0, [.ref tt, .ref n1, .ref n2, .ref n3, .ref n4, .ref n5, .ref n6, .ref n7, .ref n8, .int 0, .int 0, .int 0]))]) (w1 := []) hP hD [] [0, 1] rfl rfl (by decide) (by decide) hk1 hFc hP1 hD1
        have hP : va_P G.1 vwCl [(h0, .inr (5, [.ref tt, .ref rd, .ref nw, .ref th, .ref kp, .ref sh, .ref tu, .int 0])), (nw, .inr (0, [.ref tt, .ref n1, .ref n2, .ref n3, .ref n4, .ref n5, .ref n6, .ref n7, .ref n8, .int 0, .int 0, .int 0]))] H := hP
        have hD : va_D A [(h0, .inr (5, [.ref tt, .ref rd, .ref nw, .ref th, .ref kp, .ref sh, .ref tu, .int 0])), (nw, .inr (0, [.ref tt, .ref n1, .ref n2, .ref n3, .ref n4, .ref n5, .ref n6, .ref n7, .ref n8, .int 0, .int 0, .int 0]))] := hD
        refine lv_if_ne (tgt := 33) hx hb dX5_odds_26 (by decide) (fun c_10 => ?_) (fun c_10 => ?_)
        · skip
          have p_11 : 0 ≤ v5 ∧ v5 ≤ 1 := of_decide_eq_true (bz_ne w_9 c_10)
          refine lv_aload_n hx hb dX5_odds_33 rfl (lv_at hl 0 rfl) ?_
          refine va_get (D := G.1) (ci := 5) (v := .ref nw) (C := RX5) (T := TX5) (N := 8) hx hb hts hiX5 hown hK hP 0 rfl rfl 2 (by decide) kf28 (fun _ h9 => h9) rfl dX5_odds_34 ?_
          refine lv_iload_n hx hb dX5_odds_37 rfl (lv_at hl 3 rfl) ?_
          refine lv_iload hx hb dX5_odds_38 (lv_at hl 4 rfl) ?_
          have hPc : va_P G.1 vwCl [(nw, .inr (0, [.ref tt, .ref n1, .ref n2, .ref n3, .ref n4, .ref n5, .ref n6, .ref n7, .ref n8, .int 0, .int 0, .int 0]))] H := hP.sub [1] rfl
          have hDc : va_D A [(nw, .inr (0, [.ref tt, .ref n1, .ref n2, .ref n3, .ref n4, .ref n5, .ref n6, .ref n7, .ref n8, .int 0, .int 0, .int 0]))] := hD.sub [1] (by decide) rfl
          have hFc := va_free (wc := [(nw, .inr (0, [.ref tt, .ref n1, .ref n2, .ref n3, .ref n4, .ref n5, .ref n6, .ref n7, .ref n8, .int 0, .int 0, .int 0]))]) hD hS hA [1] rfl
          refine va_calli (va_runV (As := [.int v2, .int v3]) (rest := []) ⟨hx, hb, hml, hown, hts⟩ (c_X0_hasBoth_0 l G nw tt n1 n2 n3 n4 n5 n6 n7 n8 v2 v3 H.size) (cwV 2 hts gX5_odds_X0_hasBoth rfl rfl rfl (by decide +kernel) ⟨Nat.le_of_ble_eq_true rfl, Nat.le_of_ble_eq_true rfl⟩) ⟨gPre_blind, va_recv hK hPc (ci := 0) (q0 := 0) rfl rfl, fun U hU hW => gPre_of hU hW hK hPc hDc⟩ rfl rfl hl.1 rfl (lv_room (Nat.le_of_ble_eq_true rfl)) dX5_odds_40 ⟨Nat.le_of_ble_eq_true rfl, Nat.le_of_ble_eq_true rfl⟩) hS (fun q _ h => hFc q h) hFc (fun r_13 u t H locs ht hvm w_14 hB hz1 hk1 hS => ?_)
          obtain ⟨hP1, hK1, hD1⟩ := hB
          rw [ht] at hP1
          have hP1 : va_P G.1 vwCl [(nw, .inr (0, [.ref tt, .ref n1, .ref n2, .ref n3, .ref n4, .ref n5, .ref n6, .ref n7, .ref n8, .int 0, .int 0, .int 0]))] H := hP1
          have hD1 : va_D (va_A [(nw, .inr (0, [.ref tt, .ref n1, .ref n2, .ref n3, .ref n4, .ref n5, .ref n6, .ref n7, .ref n8, .int 0, .int 0, .int 0]))] _) [(nw, .inr (0, [.ref tt, .ref n1, .ref n2, .ref n3, .ref n4, .ref n5, .ref n6, .ref n7, .ref n8, .int 0, .int 0, .int 0]))] := hD1
          have w_14 : r_13 = 0 := w_14
          obtain ⟨hP, hD⟩ := va_join (wr := [(h0, .inr (5, [.ref tt, .ref rd, .ref nw, .ref th, .ref kp, .ref sh, .ref tu, .int 0]))]) (w1 := [(nw, .inr (0, [.ref tt, .ref n1, .ref n2, .ref n3, .ref n4, .ref n5, .ref n6, .ref n7, .ref n8, .int 0, .int 0, .int 0]))]) hP hD [1] [0] rfl rfl (by decide) (by decide) hk1 hFc hP1 hD1
          have hP : va_P G.1 vwCl [(h0, .inr (5, [.ref tt, .ref rd, .ref nw, .ref th, .ref kp, .ref sh, .ref tu, .int 0])), (nw, .inr (0, [.ref tt, .ref n1, .ref n2, .ref n3, .ref n4, .ref n5, .ref n6, .ref n7, .ref n8, .int 0, .int 0, .int 0]))] H := hP
          have hD : va_D A [(h0, .inr (5, [.ref tt, .ref rd, .ref nw, .ref th, .ref kp, .ref sh, .ref tu, .int 0])), (nw, .inr (0, [.ref tt, .ref n1, .ref n2, .ref n3, .ref n4, .ref n5, .ref n6, .ref n7, .ref n8, .int 0, .int 0, .int 0]))] := hD
          have w_14 : r_13 = 0 := w_14
          subst w_14
          refine lv_if_eq (tgt := 54) hx hb dX5_odds_43 (by decide) (fun c_15 => ?_) (fun c_15 => ?_)
          rotate_left
          · exact absurd (by decide) c_15
          refine lv_ldc2 hx hb hown (hts (.constantLong RX5 213 (-4611686018427387904)) (by decide +kernel)) dX5_odds_54 ?_
          have hpost : (fun (r : Int64) (u : Unit) => match u with | _ => r = -4611686018427387904) (-4611686018427387904) () := pp_X5_odds_0_4 v0 v1 v2 v3 v4 v5 p_4 c_6 c_7 p_11
          exact W.lret (v := (-4611686018427387904)) hx hb hr (fun t ht hW => ⟨⟨(-4611686018427387904), (), rfl, hpost, trivial⟩, hS.F ht⟩) hS.2.2 dX5_odds_57
        · skip
          have n_12 : ¬ (0 ≤ v5 ∧ v5 ≤ 1) := of_decide_eq_false (bz_eq w_9 c_10)
          refine lv_ldc2 hx hb hown (hts (.constantLong RX5 213 (-4611686018427387904)) (by decide +kernel)) dX5_odds_29 ?_
          have hpost : (fun (r : Int64) (u : Unit) => match u with | _ => r = -4611686018427387904) (-4611686018427387904) () := pp_X5_odds_0_5 v0 v1 v2 v3 v4 v5 p_4 c_6 c_7 n_12
          exact W.lret (v := (-4611686018427387904)) hx hb hr (fun t ht hW => ⟨⟨(-4611686018427387904), (), rfl, hpost, trivial⟩, hS.F ht⟩) hS.2.2 dX5_odds_32
theorem pp_X5_feed_0_1 (v0 : Int32) (v1 : Int32) (v2 : Int32) (v3 : Int32) (v4 : Int32) (v5 : Int32) (c_1 : v0 < 1) : ((-2) : Int32) = (if (1 ≤ v0 ∧ v0 ≤ 5) ∧ (0 ≤ v1 ∧ v1 ≤ 255) ∧ (0 ≤ v2 ∧ v2 ≤ 255) ∧ (0 ≤ v3 ∧ v3 ≤ 255) ∧ (0 ≤ v4 ∧ v4 ≤ 255) ∧ (0 ≤ v5 ∧ v5 ≤ 255) then v0 else -2) := by
  first
    | rfl
    | exact bz_pos (by (first | omega | (simp only [Int32.lt_iff_toInt_lt, Int32.le_iff_toInt_le, ← Int32.toInt_inj, Int32.reduceToInt] at * <;> omega)))
    | exact bz_neg (by (first | omega | (simp only [Int32.lt_iff_toInt_lt, Int32.le_iff_toInt_le, ← Int32.toInt_inj, Int32.reduceToInt] at * <;> omega)))
    | ((repeat' split) <;> first | rfl | assumption | (symm; assumption) | (exfalso; (first | omega | (simp only [Int32.lt_iff_toInt_lt, Int32.le_iff_toInt_le, ← Int32.toInt_inj, Int32.reduceToInt] at * <;> omega))))
theorem pp_X5_feed_0_2 (v0 : Int32) (v1 : Int32) (v2 : Int32) (v3 : Int32) (v4 : Int32) (v5 : Int32) (c_1 : ¬ (v0 < 1)) (c_2 : 5 < v0) : ((-2) : Int32) = (if (1 ≤ v0 ∧ v0 ≤ 5) ∧ (0 ≤ v1 ∧ v1 ≤ 255) ∧ (0 ≤ v2 ∧ v2 ≤ 255) ∧ (0 ≤ v3 ∧ v3 ≤ 255) ∧ (0 ≤ v4 ∧ v4 ≤ 255) ∧ (0 ≤ v5 ∧ v5 ≤ 255) then v0 else -2) := by
  first
    | rfl
    | exact bz_pos (by (first | omega | (simp only [Int32.lt_iff_toInt_lt, Int32.le_iff_toInt_le, ← Int32.toInt_inj, Int32.reduceToInt] at * <;> omega)))
    | exact bz_neg (by (first | omega | (simp only [Int32.lt_iff_toInt_lt, Int32.le_iff_toInt_le, ← Int32.toInt_inj, Int32.reduceToInt] at * <;> omega)))
    | ((repeat' split) <;> first | rfl | assumption | (symm; assumption) | (exfalso; (first | omega | (simp only [Int32.lt_iff_toInt_lt, Int32.le_iff_toInt_le, ← Int32.toInt_inj, Int32.reduceToInt] at * <;> omega))))
theorem pp_X5_feed_0_3 (v0 : Int32) (v1 : Int32) (v2 : Int32) (v3 : Int32) (v4 : Int32) (v5 : Int32) (c_1 : ¬ (v0 < 1)) (c_2 : ¬ (5 < v0)) (n_7 : ¬ (0 ≤ v1 ∧ v1 ≤ 255)) : ((-2) : Int32) = (if (1 ≤ v0 ∧ v0 ≤ 5) ∧ (0 ≤ v1 ∧ v1 ≤ 255) ∧ (0 ≤ v2 ∧ v2 ≤ 255) ∧ (0 ≤ v3 ∧ v3 ≤ 255) ∧ (0 ≤ v4 ∧ v4 ≤ 255) ∧ (0 ≤ v5 ∧ v5 ≤ 255) then v0 else -2) := by
  first
    | rfl
    | exact bz_pos (by (first | omega | (simp only [Int32.lt_iff_toInt_lt, Int32.le_iff_toInt_le, ← Int32.toInt_inj, Int32.reduceToInt] at * <;> omega)))
    | exact bz_neg (by (first | omega | (simp only [Int32.lt_iff_toInt_lt, Int32.le_iff_toInt_le, ← Int32.toInt_inj, Int32.reduceToInt] at * <;> omega)))
    | ((repeat' split) <;> first | rfl | assumption | (symm; assumption) | (exfalso; (first | omega | (simp only [Int32.lt_iff_toInt_lt, Int32.le_iff_toInt_le, ← Int32.toInt_inj, Int32.reduceToInt] at * <;> omega))))
theorem pp_X5_feed_0_4 (v0 : Int32) (v1 : Int32) (v2 : Int32) (v3 : Int32) (v4 : Int32) (v5 : Int32) (c_1 : ¬ (v0 < 1)) (c_2 : ¬ (5 < v0)) (p_6 : 0 ≤ v1 ∧ v1 ≤ 255) (n_12 : ¬ (0 ≤ v2 ∧ v2 ≤ 255)) : ((-2) : Int32) = (if (1 ≤ v0 ∧ v0 ≤ 5) ∧ (0 ≤ v1 ∧ v1 ≤ 255) ∧ (0 ≤ v2 ∧ v2 ≤ 255) ∧ (0 ≤ v3 ∧ v3 ≤ 255) ∧ (0 ≤ v4 ∧ v4 ≤ 255) ∧ (0 ≤ v5 ∧ v5 ≤ 255) then v0 else -2) := by
  first
    | rfl
    | exact bz_pos (by (first | omega | (simp only [Int32.lt_iff_toInt_lt, Int32.le_iff_toInt_le, ← Int32.toInt_inj, Int32.reduceToInt] at * <;> omega)))
    | exact bz_neg (by (first | omega | (simp only [Int32.lt_iff_toInt_lt, Int32.le_iff_toInt_le, ← Int32.toInt_inj, Int32.reduceToInt] at * <;> omega)))
    | ((repeat' split) <;> first | rfl | assumption | (symm; assumption) | (exfalso; (first | omega | (simp only [Int32.lt_iff_toInt_lt, Int32.le_iff_toInt_le, ← Int32.toInt_inj, Int32.reduceToInt] at * <;> omega))))
theorem pp_X5_feed_0_5 (v0 : Int32) (v1 : Int32) (v2 : Int32) (v3 : Int32) (v4 : Int32) (v5 : Int32) (c_1 : ¬ (v0 < 1)) (c_2 : ¬ (5 < v0)) (p_6 : 0 ≤ v1 ∧ v1 ≤ 255) (p_11 : 0 ≤ v2 ∧ v2 ≤ 255) (n_17 : ¬ (0 ≤ v3 ∧ v3 ≤ 255)) : ((-2) : Int32) = (if (1 ≤ v0 ∧ v0 ≤ 5) ∧ (0 ≤ v1 ∧ v1 ≤ 255) ∧ (0 ≤ v2 ∧ v2 ≤ 255) ∧ (0 ≤ v3 ∧ v3 ≤ 255) ∧ (0 ≤ v4 ∧ v4 ≤ 255) ∧ (0 ≤ v5 ∧ v5 ≤ 255) then v0 else -2) := by
  first
    | rfl
    | exact bz_pos (by (first | omega | (simp only [Int32.lt_iff_toInt_lt, Int32.le_iff_toInt_le, ← Int32.toInt_inj, Int32.reduceToInt] at * <;> omega)))
    | exact bz_neg (by (first | omega | (simp only [Int32.lt_iff_toInt_lt, Int32.le_iff_toInt_le, ← Int32.toInt_inj, Int32.reduceToInt] at * <;> omega)))
    | ((repeat' split) <;> first | rfl | assumption | (symm; assumption) | (exfalso; (first | omega | (simp only [Int32.lt_iff_toInt_lt, Int32.le_iff_toInt_le, ← Int32.toInt_inj, Int32.reduceToInt] at * <;> omega))))
theorem pp_X5_feed_0_6 (v0 : Int32) (v1 : Int32) (v2 : Int32) (v3 : Int32) (v4 : Int32) (v5 : Int32) (c_1 : ¬ (v0 < 1)) (c_2 : ¬ (5 < v0)) (p_6 : 0 ≤ v1 ∧ v1 ≤ 255) (p_11 : 0 ≤ v2 ∧ v2 ≤ 255) (p_16 : 0 ≤ v3 ∧ v3 ≤ 255) (n_22 : ¬ (0 ≤ v4 ∧ v4 ≤ 255)) : ((-2) : Int32) = (if (1 ≤ v0 ∧ v0 ≤ 5) ∧ (0 ≤ v1 ∧ v1 ≤ 255) ∧ (0 ≤ v2 ∧ v2 ≤ 255) ∧ (0 ≤ v3 ∧ v3 ≤ 255) ∧ (0 ≤ v4 ∧ v4 ≤ 255) ∧ (0 ≤ v5 ∧ v5 ≤ 255) then v0 else -2) := by
  first
    | rfl
    | exact bz_pos (by (first | omega | (simp only [Int32.lt_iff_toInt_lt, Int32.le_iff_toInt_le, ← Int32.toInt_inj, Int32.reduceToInt] at * <;> omega)))
    | exact bz_neg (by (first | omega | (simp only [Int32.lt_iff_toInt_lt, Int32.le_iff_toInt_le, ← Int32.toInt_inj, Int32.reduceToInt] at * <;> omega)))
    | ((repeat' split) <;> first | rfl | assumption | (symm; assumption) | (exfalso; (first | omega | (simp only [Int32.lt_iff_toInt_lt, Int32.le_iff_toInt_le, ← Int32.toInt_inj, Int32.reduceToInt] at * <;> omega))))
theorem pp_X5_feed_0_7 (v0 : Int32) (v1 : Int32) (v2 : Int32) (v3 : Int32) (v4 : Int32) (v5 : Int32) (c_1 : ¬ (v0 < 1)) (c_2 : ¬ (5 < v0)) (p_6 : 0 ≤ v1 ∧ v1 ≤ 255) (p_11 : 0 ≤ v2 ∧ v2 ≤ 255) (p_16 : 0 ≤ v3 ∧ v3 ≤ 255) (p_21 : 0 ≤ v4 ∧ v4 ≤ 255) (p_26 : 0 ≤ v5 ∧ v5 ≤ 255) (hk : v0 = 1) : (1 : Int32) = (if (1 ≤ v0 ∧ v0 ≤ 5) ∧ (0 ≤ v1 ∧ v1 ≤ 255) ∧ (0 ≤ v2 ∧ v2 ≤ 255) ∧ (0 ≤ v3 ∧ v3 ≤ 255) ∧ (0 ≤ v4 ∧ v4 ≤ 255) ∧ (0 ≤ v5 ∧ v5 ≤ 255) then v0 else -2) := by
  first
    | rfl
    | exact bz_pos (by (first | omega | (simp only [Int32.lt_iff_toInt_lt, Int32.le_iff_toInt_le, ← Int32.toInt_inj, Int32.reduceToInt] at * <;> omega)))
    | exact bz_neg (by (first | omega | (simp only [Int32.lt_iff_toInt_lt, Int32.le_iff_toInt_le, ← Int32.toInt_inj, Int32.reduceToInt] at * <;> omega)))
    | ((repeat' split) <;> first | rfl | assumption | (symm; assumption) | (exfalso; (first | omega | (simp only [Int32.lt_iff_toInt_lt, Int32.le_iff_toInt_le, ← Int32.toInt_inj, Int32.reduceToInt] at * <;> omega))))
theorem pp_X5_feed_0_8 (v0 : Int32) (v1 : Int32) (v2 : Int32) (v3 : Int32) (v4 : Int32) (v5 : Int32) (c_1 : ¬ (v0 < 1)) (c_2 : ¬ (5 < v0)) (p_6 : 0 ≤ v1 ∧ v1 ≤ 255) (p_11 : 0 ≤ v2 ∧ v2 ≤ 255) (p_16 : 0 ≤ v3 ∧ v3 ≤ 255) (p_21 : 0 ≤ v4 ∧ v4 ≤ 255) (p_26 : 0 ≤ v5 ∧ v5 ≤ 255) (hk : v0 = 2) : (2 : Int32) = (if (1 ≤ v0 ∧ v0 ≤ 5) ∧ (0 ≤ v1 ∧ v1 ≤ 255) ∧ (0 ≤ v2 ∧ v2 ≤ 255) ∧ (0 ≤ v3 ∧ v3 ≤ 255) ∧ (0 ≤ v4 ∧ v4 ≤ 255) ∧ (0 ≤ v5 ∧ v5 ≤ 255) then v0 else -2) := by
  first
    | rfl
    | exact bz_pos (by (first | omega | (simp only [Int32.lt_iff_toInt_lt, Int32.le_iff_toInt_le, ← Int32.toInt_inj, Int32.reduceToInt] at * <;> omega)))
    | exact bz_neg (by (first | omega | (simp only [Int32.lt_iff_toInt_lt, Int32.le_iff_toInt_le, ← Int32.toInt_inj, Int32.reduceToInt] at * <;> omega)))
    | ((repeat' split) <;> first | rfl | assumption | (symm; assumption) | (exfalso; (first | omega | (simp only [Int32.lt_iff_toInt_lt, Int32.le_iff_toInt_le, ← Int32.toInt_inj, Int32.reduceToInt] at * <;> omega))))
theorem pp_X5_feed_0_9 (v0 : Int32) (v1 : Int32) (v2 : Int32) (v3 : Int32) (v4 : Int32) (v5 : Int32) (c_1 : ¬ (v0 < 1)) (c_2 : ¬ (5 < v0)) (p_6 : 0 ≤ v1 ∧ v1 ≤ 255) (p_11 : 0 ≤ v2 ∧ v2 ≤ 255) (p_16 : 0 ≤ v3 ∧ v3 ≤ 255) (p_21 : 0 ≤ v4 ∧ v4 ≤ 255) (p_26 : 0 ≤ v5 ∧ v5 ≤ 255) (hk : v0 = 3) : (3 : Int32) = (if (1 ≤ v0 ∧ v0 ≤ 5) ∧ (0 ≤ v1 ∧ v1 ≤ 255) ∧ (0 ≤ v2 ∧ v2 ≤ 255) ∧ (0 ≤ v3 ∧ v3 ≤ 255) ∧ (0 ≤ v4 ∧ v4 ≤ 255) ∧ (0 ≤ v5 ∧ v5 ≤ 255) then v0 else -2) := by
  first
    | rfl
    | exact bz_pos (by (first | omega | (simp only [Int32.lt_iff_toInt_lt, Int32.le_iff_toInt_le, ← Int32.toInt_inj, Int32.reduceToInt] at * <;> omega)))
    | exact bz_neg (by (first | omega | (simp only [Int32.lt_iff_toInt_lt, Int32.le_iff_toInt_le, ← Int32.toInt_inj, Int32.reduceToInt] at * <;> omega)))
    | ((repeat' split) <;> first | rfl | assumption | (symm; assumption) | (exfalso; (first | omega | (simp only [Int32.lt_iff_toInt_lt, Int32.le_iff_toInt_le, ← Int32.toInt_inj, Int32.reduceToInt] at * <;> omega))))
theorem pp_X5_feed_0_10 (v0 : Int32) (v1 : Int32) (v2 : Int32) (v3 : Int32) (v4 : Int32) (v5 : Int32) (c_1 : ¬ (v0 < 1)) (c_2 : ¬ (5 < v0)) (p_6 : 0 ≤ v1 ∧ v1 ≤ 255) (p_11 : 0 ≤ v2 ∧ v2 ≤ 255) (p_16 : 0 ≤ v3 ∧ v3 ≤ 255) (p_21 : 0 ≤ v4 ∧ v4 ≤ 255) (p_26 : 0 ≤ v5 ∧ v5 ≤ 255) (hk : v0 = 4) : (4 : Int32) = (if (1 ≤ v0 ∧ v0 ≤ 5) ∧ (0 ≤ v1 ∧ v1 ≤ 255) ∧ (0 ≤ v2 ∧ v2 ≤ 255) ∧ (0 ≤ v3 ∧ v3 ≤ 255) ∧ (0 ≤ v4 ∧ v4 ≤ 255) ∧ (0 ≤ v5 ∧ v5 ≤ 255) then v0 else -2) := by
  first
    | rfl
    | exact bz_pos (by (first | omega | (simp only [Int32.lt_iff_toInt_lt, Int32.le_iff_toInt_le, ← Int32.toInt_inj, Int32.reduceToInt] at * <;> omega)))
    | exact bz_neg (by (first | omega | (simp only [Int32.lt_iff_toInt_lt, Int32.le_iff_toInt_le, ← Int32.toInt_inj, Int32.reduceToInt] at * <;> omega)))
    | ((repeat' split) <;> first | rfl | assumption | (symm; assumption) | (exfalso; (first | omega | (simp only [Int32.lt_iff_toInt_lt, Int32.le_iff_toInt_le, ← Int32.toInt_inj, Int32.reduceToInt] at * <;> omega))))
theorem pp_X5_feed_0_11 (v0 : Int32) (v1 : Int32) (v2 : Int32) (v3 : Int32) (v4 : Int32) (v5 : Int32) (c_1 : ¬ (v0 < 1)) (c_2 : ¬ (5 < v0)) (p_6 : 0 ≤ v1 ∧ v1 ≤ 255) (p_11 : 0 ≤ v2 ∧ v2 ≤ 255) (p_16 : 0 ≤ v3 ∧ v3 ≤ 255) (p_21 : 0 ≤ v4 ∧ v4 ≤ 255) (p_26 : 0 ≤ v5 ∧ v5 ≤ 255) (hk : v0 = 5) : (5 : Int32) = (if (1 ≤ v0 ∧ v0 ≤ 5) ∧ (0 ≤ v1 ∧ v1 ≤ 255) ∧ (0 ≤ v2 ∧ v2 ≤ 255) ∧ (0 ≤ v3 ∧ v3 ≤ 255) ∧ (0 ≤ v4 ∧ v4 ≤ 255) ∧ (0 ≤ v5 ∧ v5 ≤ 255) then v0 else -2) := by
  first
    | rfl
    | exact bz_pos (by (first | omega | (simp only [Int32.lt_iff_toInt_lt, Int32.le_iff_toInt_le, ← Int32.toInt_inj, Int32.reduceToInt] at * <;> omega)))
    | exact bz_neg (by (first | omega | (simp only [Int32.lt_iff_toInt_lt, Int32.le_iff_toInt_le, ← Int32.toInt_inj, Int32.reduceToInt] at * <;> omega)))
    | ((repeat' split) <;> first | rfl | assumption | (symm; assumption) | (exfalso; (first | omega | (simp only [Int32.lt_iff_toInt_lt, Int32.le_iff_toInt_le, ← Int32.toInt_inj, Int32.reduceToInt] at * <;> omega))))
theorem pp_X5_feed_0_12 (v0 : Int32) (v1 : Int32) (v2 : Int32) (v3 : Int32) (v4 : Int32) (v5 : Int32) (c_1 : ¬ (v0 < 1)) (c_2 : ¬ (5 < v0)) (p_6 : 0 ≤ v1 ∧ v1 ≤ 255) (p_11 : 0 ≤ v2 ∧ v2 ≤ 255) (p_16 : 0 ≤ v3 ∧ v3 ≤ 255) (p_21 : 0 ≤ v4 ∧ v4 ≤ 255) (n_27 : ¬ (0 ≤ v5 ∧ v5 ≤ 255)) : ((-2) : Int32) = (if (1 ≤ v0 ∧ v0 ≤ 5) ∧ (0 ≤ v1 ∧ v1 ≤ 255) ∧ (0 ≤ v2 ∧ v2 ≤ 255) ∧ (0 ≤ v3 ∧ v3 ≤ 255) ∧ (0 ≤ v4 ∧ v4 ≤ 255) ∧ (0 ≤ v5 ∧ v5 ≤ 255) then v0 else -2) := by
  first
    | rfl
    | exact bz_pos (by (first | omega | (simp only [Int32.lt_iff_toInt_lt, Int32.le_iff_toInt_le, ← Int32.toInt_inj, Int32.reduceToInt] at * <;> omega)))
    | exact bz_neg (by (first | omega | (simp only [Int32.lt_iff_toInt_lt, Int32.le_iff_toInt_le, ← Int32.toInt_inj, Int32.reduceToInt] at * <;> omega)))
    | ((repeat' split) <;> first | rfl | assumption | (symm; assumption) | (exfalso; (first | omega | (simp only [Int32.lt_iff_toInt_lt, Int32.le_iff_toInt_le, ← Int32.toInt_inj, Int32.reduceToInt] at * <;> omega))))
abbrev q_X5_feed_0 (G : gG) (h0 tt rd nw th kp sh tu b0 : Nat) (v0 : Int32) (v1 : Int32) (v2 : Int32) (v3 : Int32) (v4 : Int32) (v5 : Int32) (A : Nat → Prop) : Array Value → State → Outcome → State → Prop := va_Qi (fun (r : Int32) (u : Unit) => match u with | _ => r = (if (1 ≤ v0 ∧ v0 ≤ 5) ∧ (0 ≤ v1 ∧ v1 ≤ 255) ∧ (0 ≤ v2 ∧ v2 ≤ 255) ∧ (0 ≤ v3 ∧ v3 ≤ 255) ∧ (0 ≤ v4 ∧ v4 ≤ 255) ∧ (0 ≤ v5 ∧ v5 ≤ 255) then v0 else -2)) (fun (u : Unit) t => match u with | _ => True) A
set_option maxHeartbeats 4000000 in
set_option maxRecDepth 100000 in
theorem c_X5_feed_0 (l : Launch) (G : gG) (h0 tt rd nw th kp sh tu b0 : Nat) (v0 : Int32) (v1 : Int32) (v2 : Int32) (v3 : Int32) (v4 : Int32) (v5 : Int32) (sz : Nat) : Met l yX5_feed wsX5_feed ({ frames := 2, cells := 0, slots := 0, locals := 41 }) (gPre G [.ref h0, .int v0, .int v1, .int v2, .int v3, .int v4, .int v5] [(h0, .inr (5, [.ref tt, .ref rd, .ref nw, .ref th, .ref kp, .ref sh, .ref tu, .int 0])), (rd, .inr (1, [.ref tt, .ref b0, .int 40, .int 0, .int 40, .int 30, .int 0])), (b0, .inl (G.2.1, 160, .inl (gPf tB 40)))] sz) (q_X5_feed_0 G h0 tt rd nw th kp sh tu b0 v0 v1 v2 v3 v4 v5 (va_A [(h0, .inr (5, [.ref tt, .ref rd, .ref nw, .ref th, .ref kp, .ref sh, .ref tu, .int 0])), (rd, .inr (1, [.ref tt, .ref b0, .int 40, .int 0, .int 40, .int 30, .int 0])), (b0, .inl (G.2.1, 160, .inl (gPf tB 40)))] sz)) 0 0 (va_A [(h0, .inr (5, [.ref tt, .ref rd, .ref nw, .ref th, .ref kp, .ref sh, .ref tu, .int 0])), (rd, .inr (1, [.ref tt, .ref b0, .int 40, .int 0, .int 40, .int 30, .int 0])), (b0, .inl (G.2.1, 160, .inl (gPf tB 40)))] sz) := by
  refine Met.ofW (cc := cX5_feed) (maxL := 8) (ret := (some .int)) (by decide) rfl ?_
  intro p e s m args below meth c s₁ B hml hv
  obtain ⟨rfl, hsz, hP, hK, hD0⟩ := hv
  have hx := B.exec
  have hb := B.bytes
  have hr := B.returns
  have hts := atoms_spec (ws := wsX5_feed) B.pre
  have hown : s.vm.findClass RX5 = some m.cls := findClass_of_methodNamed B.named
  have hlocks := B.notSynchronized
  subst hsz
  have hD := hD0.self (sz := s.heap.size)
  generalize hAe : va_A [(h0, .inr (5, [.ref tt, .ref rd, .ref nw, .ref th, .ref kp, .ref sh, .ref tu, .int 0])), (rd, .inr (1, [.ref tt, .ref b0, .int 40, .int 0, .int 40, .int 30, .int 0])), (b0, .inl (G.2.1, 160, .inl (gPf tB 40)))] s.heap.size = A at hD ⊢
  have hA : ∀ q : Nat, s.heap.size ≤ q → A q := fun q h => by rw [← hAe]; exact Or.inr h
  have hS : va_S A s.heap s.heap [] := va_S.rf
  have hP : va_P G.1 vwCl [(h0, .inr (5, [.ref tt, .ref rd, .ref nw, .ref th, .ref kp, .ref sh, .ref tu, .int 0])), (rd, .inr (1, [.ref tt, .ref b0, .int 40, .int 0, .int 40, .int 30, .int 0])), (b0, .inl (G.2.1, 160, .inl (gPf tB 40)))] s.heap := hP
  have hD : va_D A [(h0, .inr (5, [.ref tt, .ref rd, .ref nw, .ref th, .ref kp, .ref sh, .ref tu, .int 0])), (rd, .inr (1, [.ref tt, .ref b0, .int 40, .int 0, .int 40, .int 30, .int 0])), (b0, .inl (G.2.1, 160, .inl (gPf tB 40)))] := hD
  have hl := lv_entry ([.ref h0, .int v0, .int v1, .int v2, .int v3, .int v4, .int v5]) (n := 8) (Nat.le_of_ble_eq_true rfl)
  rw [lg_entry_eq]
  generalize (lg_sl ([.ref h0, .int v0, .int v1, .int v2, .int v3, .int v4, .int v5]) ++ List.replicate (8 - (lg_sl ([.ref h0, .int v0, .int v1, .int v2, .int v3, .int v4, .int v5])).length) Slot.unset).toArray = ls at hl ⊢
  have hl : lv_has ls 8 [(0, .ref h0), (1, .int v0), (2, .int v1), (3, .int v2), (4, .int v3), (5, .int v4), (6, .int v5)] := hl
  have kf21 := hts (.fieldLink RX5 21 "PebbleInShoe" "tape" "LPebbleInShoe$Reader;") (by decide +kernel)
  have hiX5 := (by decide +kernel : ∀ w ∈ wsX50, w ∈ wsX5_feed)
  have kf84 := hts (.fieldLink RX5 84 "PebbleInShoe$Reader" "length" "I") (by decide +kernel)
  have hiX1 := (by decide +kernel : ∀ w ∈ wsX10, w ∈ wsX5_feed)
  refine lv_iload_n hx hb dX5_feed_0 rfl (lv_at hl 1 rfl) ?_
  refine lv_iconst (v := 1) hx hb dX5_feed_1 (by decide) ?_
  refine lv_icmp_lt (tgt := 48) hx hb dX5_feed_2 (by decide) (fun c_1 => ?_) (fun c_1 => ?_)
  · skip
    refine lv_bipush (v := -2) hx hb dX5_feed_48 (by decide) ?_
    have hpost : (fun (r : Int32) (u : Unit) => match u with | _ => r = (if (1 ≤ v0 ∧ v0 ≤ 5) ∧ (0 ≤ v1 ∧ v1 ≤ 255) ∧ (0 ≤ v2 ∧ v2 ≤ 255) ∧ (0 ≤ v3 ∧ v3 ≤ 255) ∧ (0 ≤ v4 ∧ v4 ≤ 255) ∧ (0 ≤ v5 ∧ v5 ≤ 255) then v0 else -2)) (-2) () := pp_X5_feed_0_1 v0 v1 v2 v3 v4 v5 c_1
    exact W.iret (v := (-2)) hx hb hr (fun t ht hW => ⟨⟨(-2), (), rfl, hpost, trivial⟩, hS.F ht⟩) hS.2.2 dX5_feed_50
  · skip
    refine lv_iload_n hx hb dX5_feed_5 rfl (lv_at hl 1 rfl) ?_
    refine lv_iconst (v := 5) hx hb dX5_feed_6 (by decide) ?_
    refine lv_icmp_gt (tgt := 48) hx hb dX5_feed_7 (by decide) (fun c_2 => ?_) (fun c_2 => ?_)
    · skip
      refine lv_bipush (v := -2) hx hb dX5_feed_48 (by decide) ?_
      have hpost : (fun (r : Int32) (u : Unit) => match u with | _ => r = (if (1 ≤ v0 ∧ v0 ≤ 5) ∧ (0 ≤ v1 ∧ v1 ≤ 255) ∧ (0 ≤ v2 ∧ v2 ≤ 255) ∧ (0 ≤ v3 ∧ v3 ≤ 255) ∧ (0 ≤ v4 ∧ v4 ≤ 255) ∧ (0 ≤ v5 ∧ v5 ≤ 255) then v0 else -2)) (-2) () := pp_X5_feed_0_2 v0 v1 v2 v3 v4 v5 c_1 c_2
      exact W.iret (v := (-2)) hx hb hr (fun t ht hW => ⟨⟨(-2), (), rfl, hpost, trivial⟩, hS.F ht⟩) hS.2.2 dX5_feed_50
    · skip
      refine lv_iload_n hx hb dX5_feed_10 rfl (lv_at hl 2 rfl) ?_
      have hPc : va_P G.1 vwCl [] s.heap := hP.sub [] rfl
      have hDc : va_D A [] := hD.sub [] (by decide) rfl
      have hFc := va_free (wc := []) hD hS hA [] rfl
      refine va_calli (va_runS (As := [.int v1]) (rest := []) ⟨hx, hb, hml, hown, hts⟩ (c_X5_isByte l G v1 s.heap.size) (va_cwS 1 hts gX5_feed_X5_isByte rfl rfl rfl (by decide +kernel) ⟨Nat.le_of_ble_eq_true rfl, Nat.le_of_ble_eq_true rfl⟩) ⟨gPre_blind, fun U hU hW => gPre_of hU hW hK hPc hDc⟩ rfl rfl hl.1 rfl (lv_room (Nat.le_of_ble_eq_true rfl)) dX5_feed_11 ⟨Nat.le_of_ble_eq_true rfl, Nat.le_of_ble_eq_true rfl⟩) hS (fun q _ h => hFc q h) hFc (fun r_3 u t H locs ht hvm w_4 hB hz1 hk1 hS => ?_)
      obtain ⟨hP1, hK1, hD1⟩ := hB
      rw [ht] at hP1
      have hP1 : va_P G.1 vwCl [] H := hP1
      have hD1 : va_D (va_A [] s.heap.size) [] := hD1
      have w_4 : r_3 = bz (decide (0 ≤ v1 ∧ v1 ≤ 255)) := w_4
      obtain ⟨hP, hD⟩ := va_join (wr := [(h0, .inr (5, [.ref tt, .ref rd, .ref nw, .ref th, .ref kp, .ref sh, .ref tu, .int 0])), (rd, .inr (1, [.ref tt, .ref b0, .int 40, .int 0, .int 40, .int 30, .int 0])), (b0, .inl (G.2.1, 160, .inl (gPf tB 40)))]) (w1 := []) hP hD [] [0, 1, 2] rfl rfl (by decide) (by decide) hk1 hFc hP1 hD1
      have hP : va_P G.1 vwCl [(h0, .inr (5, [.ref tt, .ref rd, .ref nw, .ref th, .ref kp, .ref sh, .ref tu, .int 0])), (rd, .inr (1, [.ref tt, .ref b0, .int 40, .int 0, .int 40, .int 30, .int 0])), (b0, .inl (G.2.1, 160, .inl (gPf tB 40)))] H := hP
      have hD : va_D A [(h0, .inr (5, [.ref tt, .ref rd, .ref nw, .ref th, .ref kp, .ref sh, .ref tu, .int 0])), (rd, .inr (1, [.ref tt, .ref b0, .int 40, .int 0, .int 40, .int 30, .int 0])), (b0, .inl (G.2.1, 160, .inl (gPf tB 40)))] := hD
      refine lv_if_eq (tgt := 48) hx hb dX5_feed_14 (by decide) (fun c_5 => ?_) (fun c_5 => ?_)
      · skip
        have n_7 : ¬ (0 ≤ v1 ∧ v1 ≤ 255) := of_decide_eq_false (bz_eq w_4 c_5)
        refine lv_bipush (v := -2) hx hb dX5_feed_48 (by decide) ?_
        have hpost : (fun (r : Int32) (u : Unit) => match u with | _ => r = (if (1 ≤ v0 ∧ v0 ≤ 5) ∧ (0 ≤ v1 ∧ v1 ≤ 255) ∧ (0 ≤ v2 ∧ v2 ≤ 255) ∧ (0 ≤ v3 ∧ v3 ≤ 255) ∧ (0 ≤ v4 ∧ v4 ≤ 255) ∧ (0 ≤ v5 ∧ v5 ≤ 255) then v0 else -2)) (-2) () := pp_X5_feed_0_3 v0 v1 v2 v3 v4 v5 c_1 c_2 n_7
        exact W.iret (v := (-2)) hx hb hr (fun t ht hW => ⟨⟨(-2), (), rfl, hpost, trivial⟩, hS.F ht⟩) hS.2.2 dX5_feed_50
      · skip
        have p_6 : 0 ≤ v1 ∧ v1 ≤ 255 := of_decide_eq_true (bz_ne w_4 c_5)
        refine lv_iload_n hx hb dX5_feed_17 rfl (lv_at hl 3 rfl) ?_
        have hPc : va_P G.1 vwCl [] H := hP.sub [] rfl
        have hDc : va_D A [] := hD.sub [] (by decide) rfl
        have hFc := va_free (wc := []) hD hS hA [] rfl
        refine va_calli (va_runS (As := [.int v2]) (rest := []) ⟨hx, hb, hml, hown, hts⟩ (c_X5_isByte l G v2 H.size) (va_cwS 1 hts gX5_feed_X5_isByte rfl rfl rfl (by decide +kernel) ⟨Nat.le_of_ble_eq_true rfl, Nat.le_of_ble_eq_true rfl⟩) ⟨gPre_blind, fun U hU hW => gPre_of hU hW hK hPc hDc⟩ rfl rfl hl.1 rfl (lv_room (Nat.le_of_ble_eq_true rfl)) dX5_feed_18 ⟨Nat.le_of_ble_eq_true rfl, Nat.le_of_ble_eq_true rfl⟩) hS (fun q _ h => hFc q h) hFc (fun r_8 u t H locs ht hvm w_9 hB hz1 hk1 hS => ?_)
        obtain ⟨hP1, hK1, hD1⟩ := hB
        rw [ht] at hP1
        have hP1 : va_P G.1 vwCl [] H := hP1
        have hD1 : va_D (va_A [] _) [] := hD1
        have w_9 : r_8 = bz (decide (0 ≤ v2 ∧ v2 ≤ 255)) := w_9
        obtain ⟨hP, hD⟩ := va_join (wr := [(h0, .inr (5, [.ref tt, .ref rd, .ref nw, .ref th, .ref kp, .ref sh, .ref tu, .int 0])), (rd, .inr (1, [.ref tt, .ref b0, .int 40, .int 0, .int 40, .int 30, .int 0])), (b0, .inl (G.2.1, 160, .inl (gPf tB 40)))]) (w1 := []) hP hD [] [0, 1, 2] rfl rfl (by decide) (by decide) hk1 hFc hP1 hD1
        have hP : va_P G.1 vwCl [(h0, .inr (5, [.ref tt, .ref rd, .ref nw, .ref th, .ref kp, .ref sh, .ref tu, .int 0])), (rd, .inr (1, [.ref tt, .ref b0, .int 40, .int 0, .int 40, .int 30, .int 0])), (b0, .inl (G.2.1, 160, .inl (gPf tB 40)))] H := hP
        have hD : va_D A [(h0, .inr (5, [.ref tt, .ref rd, .ref nw, .ref th, .ref kp, .ref sh, .ref tu, .int 0])), (rd, .inr (1, [.ref tt, .ref b0, .int 40, .int 0, .int 40, .int 30, .int 0])), (b0, .inl (G.2.1, 160, .inl (gPf tB 40)))] := hD
        refine lv_if_eq (tgt := 48) hx hb dX5_feed_21 (by decide) (fun c_10 => ?_) (fun c_10 => ?_)
        · skip
          have n_12 : ¬ (0 ≤ v2 ∧ v2 ≤ 255) := of_decide_eq_false (bz_eq w_9 c_10)
          refine lv_bipush (v := -2) hx hb dX5_feed_48 (by decide) ?_
          have hpost : (fun (r : Int32) (u : Unit) => match u with | _ => r = (if (1 ≤ v0 ∧ v0 ≤ 5) ∧ (0 ≤ v1 ∧ v1 ≤ 255) ∧ (0 ≤ v2 ∧ v2 ≤ 255) ∧ (0 ≤ v3 ∧ v3 ≤ 255) ∧ (0 ≤ v4 ∧ v4 ≤ 255) ∧ (0 ≤ v5 ∧ v5 ≤ 255) then v0 else -2)) (-2) () := pp_X5_feed_0_4 v0 v1 v2 v3 v4 v5 c_1 c_2 p_6 n_12
          exact W.iret (v := (-2)) hx hb hr (fun t ht hW => ⟨⟨(-2), (), rfl, hpost, trivial⟩, hS.F ht⟩) hS.2.2 dX5_feed_50
        · skip
          have p_11 : 0 ≤ v2 ∧ v2 ≤ 255 := of_decide_eq_true (bz_ne w_9 c_10)
          refine lv_iload hx hb dX5_feed_24 (lv_at hl 4 rfl) ?_
          have hPc : va_P G.1 vwCl [] H := hP.sub [] rfl
          have hDc : va_D A [] := hD.sub [] (by decide) rfl
          have hFc := va_free (wc := []) hD hS hA [] rfl
          refine va_calli (va_runS (As := [.int v3]) (rest := []) ⟨hx, hb, hml, hown, hts⟩ (c_X5_isByte l G v3 H.size) (va_cwS 1 hts gX5_feed_X5_isByte rfl rfl rfl (by decide +kernel) ⟨Nat.le_of_ble_eq_true rfl, Nat.le_of_ble_eq_true rfl⟩) ⟨gPre_blind, fun U hU hW => gPre_of hU hW hK hPc hDc⟩ rfl rfl hl.1 rfl (lv_room (Nat.le_of_ble_eq_true rfl)) dX5_feed_26 ⟨Nat.le_of_ble_eq_true rfl, Nat.le_of_ble_eq_true rfl⟩) hS (fun q _ h => hFc q h) hFc (fun r_13 u t H locs ht hvm w_14 hB hz1 hk1 hS => ?_)
          obtain ⟨hP1, hK1, hD1⟩ := hB
          rw [ht] at hP1
          have hP1 : va_P G.1 vwCl [] H := hP1
          have hD1 : va_D (va_A [] _) [] := hD1
          have w_14 : r_13 = bz (decide (0 ≤ v3 ∧ v3 ≤ 255)) := w_14
          obtain ⟨hP, hD⟩ := va_join (wr := [(h0, .inr (5, [.ref tt, .ref rd, .ref nw, .ref th, .ref kp, .ref sh, .ref tu, .int 0])), (rd, .inr (1, [.ref tt, .ref b0, .int 40, .int 0, .int 40, .int 30, .int 0])), (b0, .inl (G.2.1, 160, .inl (gPf tB 40)))]) (w1 := []) hP hD [] [0, 1, 2] rfl rfl (by decide) (by decide) hk1 hFc hP1 hD1
          have hP : va_P G.1 vwCl [(h0, .inr (5, [.ref tt, .ref rd, .ref nw, .ref th, .ref kp, .ref sh, .ref tu, .int 0])), (rd, .inr (1, [.ref tt, .ref b0, .int 40, .int 0, .int 40, .int 30, .int 0])), (b0, .inl (G.2.1, 160, .inl (gPf tB 40)))] H := hP
          have hD : va_D A [(h0, .inr (5, [.ref tt, .ref rd, .ref nw, .ref th, .ref kp, .ref sh, .ref tu, .int 0])), (rd, .inr (1, [.ref tt, .ref b0, .int 40, .int 0, .int 40, .int 30, .int 0])), (b0, .inl (G.2.1, 160, .inl (gPf tB 40)))] := hD
          refine lv_if_eq (tgt := 48) hx hb dX5_feed_29 (by decide) (fun c_15 => ?_) (fun c_15 => ?_)
          · skip
            have n_17 : ¬ (0 ≤ v3 ∧ v3 ≤ 255) := of_decide_eq_false (bz_eq w_14 c_15)
            refine lv_bipush (v := -2) hx hb dX5_feed_48 (by decide) ?_
            have hpost : (fun (r : Int32) (u : Unit) => match u with | _ => r = (if (1 ≤ v0 ∧ v0 ≤ 5) ∧ (0 ≤ v1 ∧ v1 ≤ 255) ∧ (0 ≤ v2 ∧ v2 ≤ 255) ∧ (0 ≤ v3 ∧ v3 ≤ 255) ∧ (0 ≤ v4 ∧ v4 ≤ 255) ∧ (0 ≤ v5 ∧ v5 ≤ 255) then v0 else -2)) (-2) () := pp_X5_feed_0_5 v0 v1 v2 v3 v4 v5 c_1 c_2 p_6 p_11 n_17
            exact W.iret (v := (-2)) hx hb hr (fun t ht hW => ⟨⟨(-2), (), rfl, hpost, trivial⟩, hS.F ht⟩) hS.2.2 dX5_feed_50
          · skip
            have p_16 : 0 ≤ v3 ∧ v3 ≤ 255 := of_decide_eq_true (bz_ne w_14 c_15)
            refine lv_iload hx hb dX5_feed_32 (lv_at hl 5 rfl) ?_
            have hPc : va_P G.1 vwCl [] H := hP.sub [] rfl
            have hDc : va_D A [] := hD.sub [] (by decide) rfl
            have hFc := va_free (wc := []) hD hS hA [] rfl
            refine va_calli (va_runS (As := [.int v4]) (rest := []) ⟨hx, hb, hml, hown, hts⟩ (c_X5_isByte l G v4 H.size) (va_cwS 1 hts gX5_feed_X5_isByte rfl rfl rfl (by decide +kernel) ⟨Nat.le_of_ble_eq_true rfl, Nat.le_of_ble_eq_true rfl⟩) ⟨gPre_blind, fun U hU hW => gPre_of hU hW hK hPc hDc⟩ rfl rfl hl.1 rfl (lv_room (Nat.le_of_ble_eq_true rfl)) dX5_feed_34 ⟨Nat.le_of_ble_eq_true rfl, Nat.le_of_ble_eq_true rfl⟩) hS (fun q _ h => hFc q h) hFc (fun r_18 u t H locs ht hvm w_19 hB hz1 hk1 hS => ?_)
            obtain ⟨hP1, hK1, hD1⟩ := hB
            rw [ht] at hP1
            have hP1 : va_P G.1 vwCl [] H := hP1
            have hD1 : va_D (va_A [] _) [] := hD1
            have w_19 : r_18 = bz (decide (0 ≤ v4 ∧ v4 ≤ 255)) := w_19
            obtain ⟨hP, hD⟩ := va_join (wr := [(h0, .inr (5, [.ref tt, .ref rd, .ref nw, .ref th, .ref kp, .ref sh, .ref tu, .int 0])), (rd, .inr (1, [.ref tt, .ref b0, .int 40, .int 0, .int 40, .int 30, .int 0])), (b0, .inl (G.2.1, 160, .inl (gPf tB 40)))]) (w1 := []) hP hD [] [0, 1, 2] rfl rfl (by decide) (by decide) hk1 hFc hP1 hD1
            have hP : va_P G.1 vwCl [(h0, .inr (5, [.ref tt, .ref rd, .ref nw, .ref th, .ref kp, .ref sh, .ref tu, .int 0])), (rd, .inr (1, [.ref tt, .ref b0, .int 40, .int 0, .int 40, .int 30, .int 0])), (b0, .inl (G.2.1, 160, .inl (gPf tB 40)))] H := hP
            have hD : va_D A [(h0, .inr (5, [.ref tt, .ref rd, .ref nw, .ref th, .ref kp, .ref sh, .ref tu, .int 0])), (rd, .inr (1, [.ref tt, .ref b0, .int 40, .int 0, .int 40, .int 30, .int 0])), (b0, .inl (G.2.1, 160, .inl (gPf tB 40)))] := hD
            refine lv_if_eq (tgt := 48) hx hb dX5_feed_37 (by decide) (fun c_20 => ?_) (fun c_20 => ?_)
            · skip
              have n_22 : ¬ (0 ≤ v4 ∧ v4 ≤ 255) := of_decide_eq_false (bz_eq w_19 c_20)
              refine lv_bipush (v := -2) hx hb dX5_feed_48 (by decide) ?_
              have hpost : (fun (r : Int32) (u : Unit) => match u with | _ => r = (if (1 ≤ v0 ∧ v0 ≤ 5) ∧ (0 ≤ v1 ∧ v1 ≤ 255) ∧ (0 ≤ v2 ∧ v2 ≤ 255) ∧ (0 ≤ v3 ∧ v3 ≤ 255) ∧ (0 ≤ v4 ∧ v4 ≤ 255) ∧ (0 ≤ v5 ∧ v5 ≤ 255) then v0 else -2)) (-2) () := pp_X5_feed_0_6 v0 v1 v2 v3 v4 v5 c_1 c_2 p_6 p_11 p_16 n_22
              exact W.iret (v := (-2)) hx hb hr (fun t ht hW => ⟨⟨(-2), (), rfl, hpost, trivial⟩, hS.F ht⟩) hS.2.2 dX5_feed_50
            · skip
              have p_21 : 0 ≤ v4 ∧ v4 ≤ 255 := of_decide_eq_true (bz_ne w_19 c_20)
              refine lv_iload hx hb dX5_feed_40 (lv_at hl 6 rfl) ?_
              have hPc : va_P G.1 vwCl [] H := hP.sub [] rfl
              have hDc : va_D A [] := hD.sub [] (by decide) rfl
              have hFc := va_free (wc := []) hD hS hA [] rfl
              refine va_calli (va_runS (As := [.int v5]) (rest := []) ⟨hx, hb, hml, hown, hts⟩ (c_X5_isByte l G v5 H.size) (va_cwS 1 hts gX5_feed_X5_isByte rfl rfl rfl (by decide +kernel) ⟨Nat.le_of_ble_eq_true rfl, Nat.le_of_ble_eq_true rfl⟩) ⟨gPre_blind, fun U hU hW => gPre_of hU hW hK hPc hDc⟩ rfl rfl hl.1 rfl (lv_room (Nat.le_of_ble_eq_true rfl)) dX5_feed_42 ⟨Nat.le_of_ble_eq_true rfl, Nat.le_of_ble_eq_true rfl⟩) hS (fun q _ h => hFc q h) hFc (fun r_23 u t H locs ht hvm w_24 hB hz1 hk1 hS => ?_)
              obtain ⟨hP1, hK1, hD1⟩ := hB
              rw [ht] at hP1
              have hP1 : va_P G.1 vwCl [] H := hP1
              have hD1 : va_D (va_A [] _) [] := hD1
              have w_24 : r_23 = bz (decide (0 ≤ v5 ∧ v5 ≤ 255)) := w_24
              obtain ⟨hP, hD⟩ := va_join (wr := [(h0, .inr (5, [.ref tt, .ref rd, .ref nw, .ref th, .ref kp, .ref sh, .ref tu, .int 0])), (rd, .inr (1, [.ref tt, .ref b0, .int 40, .int 0, .int 40, .int 30, .int 0])), (b0, .inl (G.2.1, 160, .inl (gPf tB 40)))]) (w1 := []) hP hD [] [0, 1, 2] rfl rfl (by decide) (by decide) hk1 hFc hP1 hD1
              have hP : va_P G.1 vwCl [(h0, .inr (5, [.ref tt, .ref rd, .ref nw, .ref th, .ref kp, .ref sh, .ref tu, .int 0])), (rd, .inr (1, [.ref tt, .ref b0, .int 40, .int 0, .int 40, .int 30, .int 0])), (b0, .inl (G.2.1, 160, .inl (gPf tB 40)))] H := hP
              have hD : va_D A [(h0, .inr (5, [.ref tt, .ref rd, .ref nw, .ref th, .ref kp, .ref sh, .ref tu, .int 0])), (rd, .inr (1, [.ref tt, .ref b0, .int 40, .int 0, .int 40, .int 30, .int 0])), (b0, .inl (G.2.1, 160, .inl (gPf tB 40)))] := hD
              refine lv_if_ne (tgt := 51) hx hb dX5_feed_45 (by decide) (fun c_25 => ?_) (fun c_25 => ?_)
              · skip
                have p_26 : 0 ≤ v5 ∧ v5 ≤ 255 := of_decide_eq_true (bz_ne w_24 c_25)
                rcases g15 c_1 c_2 with hk | hk | hk | hk | hk
                · skip
                  refine lv_aload_n hx hb dX5_feed_51 rfl (lv_at hl 0 rfl) ?_
                  refine va_get (D := G.1) (ci := 5) (v := .ref rd) (C := RX5) (T := TX5) (N := 8) hx hb hts hiX5 hown hK hP 0 rfl rfl 1 (by decide) kf21 (fun _ h9 => h9) rfl dX5_feed_52 ?_
                  refine va_get (D := G.1) (ci := 1) (v := .int 0) (C := RX1) (T := TX1) (N := 7) hx hb hts hiX1 hown hK hP 1 rfl rfl 6 (by decide) kf84 (fun _ h9 => h9) rfl dX5_feed_55 ?_
                  refine lv_iload_n hx hb dX5_feed_58 rfl (lv_at hl 1 rfl) ?_
                  refine lv_iadd hx hb dX5_feed_59 ?_
                  refine lv_sipush (v := 160) hx hb dX5_feed_60 (by decide) ?_
                  refine lv_icmp_le (tgt := 69) hx hb dX5_feed_63 (by decide) (fun c_28 => ?_) (fun c_28 => ?_)
                  rotate_left
                  · exact absurd (by rw [hk]; decide) c_28
                  refine lv_iconst (v := 0) hx hb dX5_feed_69 (by decide) ?_
                  refine lv_istore (lv' := [(7, .int 0), (0, .ref h0), (1, .int v0), (2, .int v1), (3, .int v2), (4, .int v3), (5, .int v4), (6, .int v5)]) hx hb dX5_feed_70 hl (by decide) rfl (fun ls hl => ?_)
                  refine lv_iload hx hb dX5_feed_72 (lv_at hl 0 rfl) ?_
                  refine lv_iload_n hx hb dX5_feed_74 rfl (lv_at hl 2 rfl) ?_
                  refine lv_icmp_ge (tgt := 134) hx hb dX5_feed_75 (by decide) (fun c_29 => ?_) (fun c_29 => ?_)
                  · exact absurd c_29 (by rw [hk]; decide)
                  refine lv_aload_n hx hb dX5_feed_78 rfl (lv_at hl 1 rfl) ?_
                  refine va_get (D := G.1) (ci := 5) (v := .ref rd) (C := RX5) (T := TX5) (N := 8) hx hb hts hiX5 hown hK hP 0 rfl rfl 1 (by decide) kf21 (fun _ h9 => h9) rfl dX5_feed_79 ?_
                  refine lv_iload hx hb dX5_feed_82 (lv_at hl 0 rfl) ?_
                  refine lv_if_ne (tgt := 91) hx hb dX5_feed_84 (by decide) (fun c_30 => ?_) (fun c_30 => ?_)
                  · exact absurd (by decide) c_30
                  refine lv_iload_n hx hb dX5_feed_87 rfl (lv_at hl 3 rfl) ?_
                  refine lv_goto (tgt := 125) hx hb dX5_feed_88 (by decide) ?_
                  have hPc : va_P G.1 vwCl [(rd, .inr (1, [.ref tt, .ref b0, .int 40, .int 0, .int 40, .int 30, .int (nI 0)])), (b0, .inl (G.2.1, 160, .inl (gPf tB 40)))] H := hP.sub [1, 2] rfl
                  have hDc : va_D A [(rd, .inr (1, [.ref tt, .ref b0, .int 40, .int 0, .int 40, .int 30, .int (nI 0)])), (b0, .inl (G.2.1, 160, .inl (gPf tB 40)))] := hD.sub [1, 2] (by decide) rfl
                  have hFc := va_free (wc := [(rd, .inr (1, [.ref tt, .ref b0, .int 40, .int 0, .int 40, .int 30, .int (nI 0)])), (b0, .inl (G.2.1, 160, .inl (gPf tB 40)))]) hD hS hA [1, 2] rfl
                  refine va_callv (va_runV (As := [.int v1]) (rest := []) ⟨hx, hb, hml, hown, hts⟩ (c_X1_add l G rd tt b0 (gPf tB 40) 40 0 40 30 0 v1 H.size (by decide)) (cwV 1 hts gX5_feed_X1_add rfl rfl rfl (by decide +kernel) ⟨Nat.le_of_ble_eq_true rfl, Nat.le_of_ble_eq_true rfl⟩) ⟨gPre_blind, va_recv hK hPc (ci := 1) (q0 := 0) rfl rfl, fun U hU hW => gPre_of hU hW hK hPc hDc⟩ rfl rfl hl.1 rfl (lv_room (Nat.le_of_ble_eq_true rfl)) dX5_feed_125 ⟨Nat.le_of_ble_eq_true rfl, Nat.le_of_ble_eq_true rfl⟩) hS (fun q _ h => hFc q h) hFc (fun u t H locs ht hvm w_32 hB hz1 hk1 hS => ?_)
                  obtain ⟨hP1, hK1, hD1⟩ := hB
                  rw [ht] at hP1
                  have hP1 : va_P G.1 vwCl [(rd, .inr (1, [.ref tt, .ref b0, .int 40, .int 0, .int 40, .int 30, .int 1])), (b0, .inl (G.2.1, 160, .inl (upd (gPf tB 40) 0 v1)))] H := hP1
                  have hD1 : va_D (va_A [(rd, .inr (1, [.ref tt, .ref b0, .int 40, .int 0, .int 40, .int 30, .int (nI 0)])), (b0, .inl (G.2.1, 160, .inl (gPf tB 40)))] _) [(rd, .inr (1, [.ref tt, .ref b0, .int 40, .int 0, .int 40, .int 30, .int 1])), (b0, .inl (G.2.1, 160, .inl (upd (gPf tB 40) 0 v1)))] := hD1
                  obtain ⟨hP, hD⟩ := va_join (wr := [(h0, .inr (5, [.ref tt, .ref rd, .ref nw, .ref th, .ref kp, .ref sh, .ref tu, .int 0]))]) (w1 := [(rd, .inr (1, [.ref tt, .ref b0, .int 40, .int 0, .int 40, .int 30, .int 1])), (b0, .inl (G.2.1, 160, .inl (upd (gPf tB 40) 0 v1)))]) hP hD [1, 2] [0] rfl rfl (by decide) (by decide) hk1 hFc hP1 hD1
                  have hP : va_P G.1 vwCl [(h0, .inr (5, [.ref tt, .ref rd, .ref nw, .ref th, .ref kp, .ref sh, .ref tu, .int 0])), (rd, .inr (1, [.ref tt, .ref b0, .int 40, .int 0, .int 40, .int 30, .int 1])), (b0, .inl (G.2.1, 160, .inl (upd (gPf tB 40) 0 v1)))] H := hP
                  have hD : va_D A [(h0, .inr (5, [.ref tt, .ref rd, .ref nw, .ref th, .ref kp, .ref sh, .ref tu, .int 0])), (rd, .inr (1, [.ref tt, .ref b0, .int 40, .int 0, .int 40, .int 30, .int 1])), (b0, .inl (G.2.1, 160, .inl (upd (gPf tB 40) 0 v1)))] := hD
                  refine lv_iinc (v := 1) (lv' := [(7, .int 1), (0, .ref h0), (1, .int v0), (2, .int v1), (3, .int v2), (4, .int v3), (5, .int v4), (6, .int v5)]) hx hb dX5_feed_128 hl (k := 0) rfl (by decide) (by decide) rfl (fun ls hl => ?_)
                  refine lv_goto (tgt := 72) hx hb dX5_feed_131 (by decide) ?_
                  refine lv_iload hx hb dX5_feed_72 (lv_at hl 0 rfl) ?_
                  refine lv_iload_n hx hb dX5_feed_74 rfl (lv_at hl 2 rfl) ?_
                  refine lv_icmp_ge (tgt := 134) hx hb dX5_feed_75 (by decide) (fun c_33 => ?_) (fun c_33 => ?_)
                  rotate_left
                  · exact absurd (by rw [hk]; decide) c_33
                  refine lv_aload_n hx hb dX5_feed_134 rfl (lv_at hl 1 rfl) ?_
                  refine va_get (D := G.1) (ci := 5) (v := .ref rd) (C := RX5) (T := TX5) (N := 8) hx hb hts hiX5 hown hK hP 0 rfl rfl 1 (by decide) kf21 (fun _ h9 => h9) rfl dX5_feed_135 ?_
                  refine va_get (D := G.1) (ci := 1) (v := .int 1) (C := RX1) (T := TX1) (N := 7) hx hb hts hiX1 hown hK hP 1 rfl rfl 6 (by decide) kf84 (fun _ h9 => h9) rfl dX5_feed_138 ?_
                  have hpost : (fun (r : Int32) (u : Unit) => match u with | _ => r = (if (1 ≤ v0 ∧ v0 ≤ 5) ∧ (0 ≤ v1 ∧ v1 ≤ 255) ∧ (0 ≤ v2 ∧ v2 ≤ 255) ∧ (0 ≤ v3 ∧ v3 ≤ 255) ∧ (0 ≤ v4 ∧ v4 ≤ 255) ∧ (0 ≤ v5 ∧ v5 ≤ 255) then v0 else -2)) 1 () := pp_X5_feed_0_7 v0 v1 v2 v3 v4 v5 c_1 c_2 p_6 p_11 p_16 p_21 p_26 hk
                  exact W.iret (v := 1) hx hb hr (fun t ht hW => ⟨⟨1, (), rfl, hpost, trivial⟩, hS.F ht⟩) hS.2.2 dX5_feed_141
                · skip
                  refine lv_aload_n hx hb dX5_feed_51 rfl (lv_at hl 0 rfl) ?_
                  refine va_get (D := G.1) (ci := 5) (v := .ref rd) (C := RX5) (T := TX5) (N := 8) hx hb hts hiX5 hown hK hP 0 rfl rfl 1 (by decide) kf21 (fun _ h9 => h9) rfl dX5_feed_52 ?_
                  refine va_get (D := G.1) (ci := 1) (v := .int 0) (C := RX1) (T := TX1) (N := 7) hx hb hts hiX1 hown hK hP 1 rfl rfl 6 (by decide) kf84 (fun _ h9 => h9) rfl dX5_feed_55 ?_
                  refine lv_iload_n hx hb dX5_feed_58 rfl (lv_at hl 1 rfl) ?_
                  refine lv_iadd hx hb dX5_feed_59 ?_
                  refine lv_sipush (v := 160) hx hb dX5_feed_60 (by decide) ?_
                  refine lv_icmp_le (tgt := 69) hx hb dX5_feed_63 (by decide) (fun c_34 => ?_) (fun c_34 => ?_)
                  rotate_left
                  · exact absurd (by rw [hk]; decide) c_34
                  refine lv_iconst (v := 0) hx hb dX5_feed_69 (by decide) ?_
                  refine lv_istore (lv' := [(7, .int 0), (0, .ref h0), (1, .int v0), (2, .int v1), (3, .int v2), (4, .int v3), (5, .int v4), (6, .int v5)]) hx hb dX5_feed_70 hl (by decide) rfl (fun ls hl => ?_)
                  refine lv_iload hx hb dX5_feed_72 (lv_at hl 0 rfl) ?_
                  refine lv_iload_n hx hb dX5_feed_74 rfl (lv_at hl 2 rfl) ?_
                  refine lv_icmp_ge (tgt := 134) hx hb dX5_feed_75 (by decide) (fun c_35 => ?_) (fun c_35 => ?_)
                  · exact absurd c_35 (by rw [hk]; decide)
                  refine lv_aload_n hx hb dX5_feed_78 rfl (lv_at hl 1 rfl) ?_
                  refine va_get (D := G.1) (ci := 5) (v := .ref rd) (C := RX5) (T := TX5) (N := 8) hx hb hts hiX5 hown hK hP 0 rfl rfl 1 (by decide) kf21 (fun _ h9 => h9) rfl dX5_feed_79 ?_
                  refine lv_iload hx hb dX5_feed_82 (lv_at hl 0 rfl) ?_
                  refine lv_if_ne (tgt := 91) hx hb dX5_feed_84 (by decide) (fun c_36 => ?_) (fun c_36 => ?_)
                  · exact absurd (by decide) c_36
                  refine lv_iload_n hx hb dX5_feed_87 rfl (lv_at hl 3 rfl) ?_
                  refine lv_goto (tgt := 125) hx hb dX5_feed_88 (by decide) ?_
                  have hPc : va_P G.1 vwCl [(rd, .inr (1, [.ref tt, .ref b0, .int 40, .int 0, .int 40, .int 30, .int (nI 0)])), (b0, .inl (G.2.1, 160, .inl (gPf tB 40)))] H := hP.sub [1, 2] rfl
                  have hDc : va_D A [(rd, .inr (1, [.ref tt, .ref b0, .int 40, .int 0, .int 40, .int 30, .int (nI 0)])), (b0, .inl (G.2.1, 160, .inl (gPf tB 40)))] := hD.sub [1, 2] (by decide) rfl
                  have hFc := va_free (wc := [(rd, .inr (1, [.ref tt, .ref b0, .int 40, .int 0, .int 40, .int 30, .int (nI 0)])), (b0, .inl (G.2.1, 160, .inl (gPf tB 40)))]) hD hS hA [1, 2] rfl
                  refine va_callv (va_runV (As := [.int v1]) (rest := []) ⟨hx, hb, hml, hown, hts⟩ (c_X1_add l G rd tt b0 (gPf tB 40) 40 0 40 30 0 v1 H.size (by decide)) (cwV 1 hts gX5_feed_X1_add rfl rfl rfl (by decide +kernel) ⟨Nat.le_of_ble_eq_true rfl, Nat.le_of_ble_eq_true rfl⟩) ⟨gPre_blind, va_recv hK hPc (ci := 1) (q0 := 0) rfl rfl, fun U hU hW => gPre_of hU hW hK hPc hDc⟩ rfl rfl hl.1 rfl (lv_room (Nat.le_of_ble_eq_true rfl)) dX5_feed_125 ⟨Nat.le_of_ble_eq_true rfl, Nat.le_of_ble_eq_true rfl⟩) hS (fun q _ h => hFc q h) hFc (fun u t H locs ht hvm w_38 hB hz1 hk1 hS => ?_)
                  obtain ⟨hP1, hK1, hD1⟩ := hB
                  rw [ht] at hP1
                  have hP1 : va_P G.1 vwCl [(rd, .inr (1, [.ref tt, .ref b0, .int 40, .int 0, .int 40, .int 30, .int 1])), (b0, .inl (G.2.1, 160, .inl (upd (gPf tB 40) 0 v1)))] H := hP1
                  have hD1 : va_D (va_A [(rd, .inr (1, [.ref tt, .ref b0, .int 40, .int 0, .int 40, .int 30, .int (nI 0)])), (b0, .inl (G.2.1, 160, .inl (gPf tB 40)))] _) [(rd, .inr (1, [.ref tt, .ref b0, .int 40, .int 0, .int 40, .int 30, .int 1])), (b0, .inl (G.2.1, 160, .inl (upd (gPf tB 40) 0 v1)))] := hD1
                  obtain ⟨hP, hD⟩ := va_join (wr := [(h0, .inr (5, [.ref tt, .ref rd, .ref nw, .ref th, .ref kp, .ref sh, .ref tu, .int 0]))]) (w1 := [(rd, .inr (1, [.ref tt, .ref b0, .int 40, .int 0, .int 40, .int 30, .int 1])), (b0, .inl (G.2.1, 160, .inl (upd (gPf tB 40) 0 v1)))]) hP hD [1, 2] [0] rfl rfl (by decide) (by decide) hk1 hFc hP1 hD1
                  have hP : va_P G.1 vwCl [(h0, .inr (5, [.ref tt, .ref rd, .ref nw, .ref th, .ref kp, .ref sh, .ref tu, .int 0])), (rd, .inr (1, [.ref tt, .ref b0, .int 40, .int 0, .int 40, .int 30, .int 1])), (b0, .inl (G.2.1, 160, .inl (upd (gPf tB 40) 0 v1)))] H := hP
                  have hD : va_D A [(h0, .inr (5, [.ref tt, .ref rd, .ref nw, .ref th, .ref kp, .ref sh, .ref tu, .int 0])), (rd, .inr (1, [.ref tt, .ref b0, .int 40, .int 0, .int 40, .int 30, .int 1])), (b0, .inl (G.2.1, 160, .inl (upd (gPf tB 40) 0 v1)))] := hD
                  refine lv_iinc (v := 1) (lv' := [(7, .int 1), (0, .ref h0), (1, .int v0), (2, .int v1), (3, .int v2), (4, .int v3), (5, .int v4), (6, .int v5)]) hx hb dX5_feed_128 hl (k := 0) rfl (by decide) (by decide) rfl (fun ls hl => ?_)
                  refine lv_goto (tgt := 72) hx hb dX5_feed_131 (by decide) ?_
                  refine lv_iload hx hb dX5_feed_72 (lv_at hl 0 rfl) ?_
                  refine lv_iload_n hx hb dX5_feed_74 rfl (lv_at hl 2 rfl) ?_
                  refine lv_icmp_ge (tgt := 134) hx hb dX5_feed_75 (by decide) (fun c_39 => ?_) (fun c_39 => ?_)
                  · exact absurd c_39 (by rw [hk]; decide)
                  refine lv_aload_n hx hb dX5_feed_78 rfl (lv_at hl 1 rfl) ?_
                  refine va_get (D := G.1) (ci := 5) (v := .ref rd) (C := RX5) (T := TX5) (N := 8) hx hb hts hiX5 hown hK hP 0 rfl rfl 1 (by decide) kf21 (fun _ h9 => h9) rfl dX5_feed_79 ?_
                  refine lv_iload hx hb dX5_feed_82 (lv_at hl 0 rfl) ?_
                  refine lv_if_ne (tgt := 91) hx hb dX5_feed_84 (by decide) (fun c_40 => ?_) (fun c_40 => ?_)
                  rotate_left
                  · exact absurd c_40 (by decide)
                  refine lv_iload hx hb dX5_feed_91 (lv_at hl 0 rfl) ?_
                  refine lv_iconst (v := 1) hx hb dX5_feed_93 (by decide) ?_
                  refine lv_icmp_ne (tgt := 101) hx hb dX5_feed_94 (by decide) (fun c_41 => ?_) (fun c_41 => ?_)
                  · exact absurd (by decide) c_41
                  refine lv_iload_n hx hb dX5_feed_97 rfl (lv_at hl 4 rfl) ?_
                  refine lv_goto (tgt := 125) hx hb dX5_feed_98 (by decide) ?_
                  have hPc : va_P G.1 vwCl [(rd, .inr (1, [.ref tt, .ref b0, .int 40, .int 0, .int 40, .int 30, .int (nI 1)])), (b0, .inl (G.2.1, 160, .inl (upd (gPf tB 40) 0 v1)))] H := hP.sub [1, 2] rfl
                  have hDc : va_D A [(rd, .inr (1, [.ref tt, .ref b0, .int 40, .int 0, .int 40, .int 30, .int (nI 1)])), (b0, .inl (G.2.1, 160, .inl (upd (gPf tB 40) 0 v1)))] := hD.sub [1, 2] (by decide) rfl
                  have hFc := va_free (wc := [(rd, .inr (1, [.ref tt, .ref b0, .int 40, .int 0, .int 40, .int 30, .int (nI 1)])), (b0, .inl (G.2.1, 160, .inl (upd (gPf tB 40) 0 v1)))]) hD hS hA [1, 2] rfl
                  refine va_callv (va_runV (As := [.int v2]) (rest := []) ⟨hx, hb, hml, hown, hts⟩ (c_X1_add l G rd tt b0 (upd (gPf tB 40) 0 v1) 40 0 40 30 1 v2 H.size (by decide)) (cwV 1 hts gX5_feed_X1_add rfl rfl rfl (by decide +kernel) ⟨Nat.le_of_ble_eq_true rfl, Nat.le_of_ble_eq_true rfl⟩) ⟨gPre_blind, va_recv hK hPc (ci := 1) (q0 := 0) rfl rfl, fun U hU hW => gPre_of hU hW hK hPc hDc⟩ rfl rfl hl.1 rfl (lv_room (Nat.le_of_ble_eq_true rfl)) dX5_feed_125 ⟨Nat.le_of_ble_eq_true rfl, Nat.le_of_ble_eq_true rfl⟩) hS (fun q _ h => hFc q h) hFc (fun u t H locs ht hvm w_43 hB hz1 hk1 hS => ?_)
                  obtain ⟨hP1, hK1, hD1⟩ := hB
                  rw [ht] at hP1
                  have hP1 : va_P G.1 vwCl [(rd, .inr (1, [.ref tt, .ref b0, .int 40, .int 0, .int 40, .int 30, .int 2])), (b0, .inl (G.2.1, 160, .inl (upd (upd (gPf tB 40) 0 v1) 1 v2)))] H := hP1
                  have hD1 : va_D (va_A [(rd, .inr (1, [.ref tt, .ref b0, .int 40, .int 0, .int 40, .int 30, .int (nI 1)])), (b0, .inl (G.2.1, 160, .inl (upd (gPf tB 40) 0 v1)))] _) [(rd, .inr (1, [.ref tt, .ref b0, .int 40, .int 0, .int 40, .int 30, .int 2])), (b0, .inl (G.2.1, 160, .inl (upd (upd (gPf tB 40) 0 v1) 1 v2)))] := hD1
                  obtain ⟨hP, hD⟩ := va_join (wr := [(h0, .inr (5, [.ref tt, .ref rd, .ref nw, .ref th, .ref kp, .ref sh, .ref tu, .int 0]))]) (w1 := [(rd, .inr (1, [.ref tt, .ref b0, .int 40, .int 0, .int 40, .int 30, .int 2])), (b0, .inl (G.2.1, 160, .inl (upd (upd (gPf tB 40) 0 v1) 1 v2)))]) hP hD [1, 2] [0] rfl rfl (by decide) (by decide) hk1 hFc hP1 hD1
                  have hP : va_P G.1 vwCl [(h0, .inr (5, [.ref tt, .ref rd, .ref nw, .ref th, .ref kp, .ref sh, .ref tu, .int 0])), (rd, .inr (1, [.ref tt, .ref b0, .int 40, .int 0, .int 40, .int 30, .int 2])), (b0, .inl (G.2.1, 160, .inl (upd (upd (gPf tB 40) 0 v1) 1 v2)))] H := hP
                  have hD : va_D A [(h0, .inr (5, [.ref tt, .ref rd, .ref nw, .ref th, .ref kp, .ref sh, .ref tu, .int 0])), (rd, .inr (1, [.ref tt, .ref b0, .int 40, .int 0, .int 40, .int 30, .int 2])), (b0, .inl (G.2.1, 160, .inl (upd (upd (gPf tB 40) 0 v1) 1 v2)))] := hD
                  refine lv_iinc (v := 2) (lv' := [(7, .int 2), (0, .ref h0), (1, .int v0), (2, .int v1), (3, .int v2), (4, .int v3), (5, .int v4), (6, .int v5)]) hx hb dX5_feed_128 hl (k := 0) rfl (by decide) (by decide) rfl (fun ls hl => ?_)
                  refine lv_goto (tgt := 72) hx hb dX5_feed_131 (by decide) ?_
                  refine lv_iload hx hb dX5_feed_72 (lv_at hl 0 rfl) ?_
                  refine lv_iload_n hx hb dX5_feed_74 rfl (lv_at hl 2 rfl) ?_
                  refine lv_icmp_ge (tgt := 134) hx hb dX5_feed_75 (by decide) (fun c_44 => ?_) (fun c_44 => ?_)
                  rotate_left
                  · exact absurd (by rw [hk]; decide) c_44
                  refine lv_aload_n hx hb dX5_feed_134 rfl (lv_at hl 1 rfl) ?_
                  refine va_get (D := G.1) (ci := 5) (v := .ref rd) (C := RX5) (T := TX5) (N := 8) hx hb hts hiX5 hown hK hP 0 rfl rfl 1 (by decide) kf21 (fun _ h9 => h9) rfl dX5_feed_135 ?_
                  refine va_get (D := G.1) (ci := 1) (v := .int 2) (C := RX1) (T := TX1) (N := 7) hx hb hts hiX1 hown hK hP 1 rfl rfl 6 (by decide) kf84 (fun _ h9 => h9) rfl dX5_feed_138 ?_
                  have hpost : (fun (r : Int32) (u : Unit) => match u with | _ => r = (if (1 ≤ v0 ∧ v0 ≤ 5) ∧ (0 ≤ v1 ∧ v1 ≤ 255) ∧ (0 ≤ v2 ∧ v2 ≤ 255) ∧ (0 ≤ v3 ∧ v3 ≤ 255) ∧ (0 ≤ v4 ∧ v4 ≤ 255) ∧ (0 ≤ v5 ∧ v5 ≤ 255) then v0 else -2)) 2 () := pp_X5_feed_0_8 v0 v1 v2 v3 v4 v5 c_1 c_2 p_6 p_11 p_16 p_21 p_26 hk
                  exact W.iret (v := 2) hx hb hr (fun t ht hW => ⟨⟨2, (), rfl, hpost, trivial⟩, hS.F ht⟩) hS.2.2 dX5_feed_141
                · skip
                  refine lv_aload_n hx hb dX5_feed_51 rfl (lv_at hl 0 rfl) ?_
                  refine va_get (D := G.1) (ci := 5) (v := .ref rd) (C := RX5) (T := TX5) (N := 8) hx hb hts hiX5 hown hK hP 0 rfl rfl 1 (by decide) kf21 (fun _ h9 => h9) rfl dX5_feed_52 ?_
                  refine va_get (D := G.1) (ci := 1) (v := .int 0) (C := RX1) (T := TX1) (N := 7) hx hb hts hiX1 hown hK hP 1 rfl rfl 6 (by decide) kf84 (fun _ h9 => h9) rfl dX5_feed_55 ?_
                  refine lv_iload_n hx hb dX5_feed_58 rfl (lv_at hl 1 rfl) ?_
                  refine lv_iadd hx hb dX5_feed_59 ?_
                  refine lv_sipush (v := 160) hx hb dX5_feed_60 (by decide) ?_
                  refine lv_icmp_le (tgt := 69) hx hb dX5_feed_63 (by decide) (fun c_45 => ?_) (fun c_45 => ?_)
                  rotate_left
                  · exact absurd (by rw [hk]; decide) c_45
                  refine lv_iconst (v := 0) hx hb dX5_feed_69 (by decide) ?_
                  refine lv_istore (lv' := [(7, .int 0), (0, .ref h0), (1, .int v0), (2, .int v1), (3, .int v2), (4, .int v3), (5, .int v4), (6, .int v5)]) hx hb dX5_feed_70 hl (by decide) rfl (fun ls hl => ?_)
                  refine lv_iload hx hb dX5_feed_72 (lv_at hl 0 rfl) ?_
                  refine lv_iload_n hx hb dX5_feed_74 rfl (lv_at hl 2 rfl) ?_
                  refine lv_icmp_ge (tgt := 134) hx hb dX5_feed_75 (by decide) (fun c_46 => ?_) (fun c_46 => ?_)
                  · exact absurd c_46 (by rw [hk]; decide)
                  refine lv_aload_n hx hb dX5_feed_78 rfl (lv_at hl 1 rfl) ?_
                  refine va_get (D := G.1) (ci := 5) (v := .ref rd) (C := RX5) (T := TX5) (N := 8) hx hb hts hiX5 hown hK hP 0 rfl rfl 1 (by decide) kf21 (fun _ h9 => h9) rfl dX5_feed_79 ?_
                  refine lv_iload hx hb dX5_feed_82 (lv_at hl 0 rfl) ?_
                  refine lv_if_ne (tgt := 91) hx hb dX5_feed_84 (by decide) (fun c_47 => ?_) (fun c_47 => ?_)
                  · exact absurd (by decide) c_47
                  refine lv_iload_n hx hb dX5_feed_87 rfl (lv_at hl 3 rfl) ?_
                  refine lv_goto (tgt := 125) hx hb dX5_feed_88 (by decide) ?_
                  have hPc : va_P G.1 vwCl [(rd, .inr (1, [.ref tt, .ref b0, .int 40, .int 0, .int 40, .int 30, .int (nI 0)])), (b0, .inl (G.2.1, 160, .inl (gPf tB 40)))] H := hP.sub [1, 2] rfl
                  have hDc : va_D A [(rd, .inr (1, [.ref tt, .ref b0, .int 40, .int 0, .int 40, .int 30, .int (nI 0)])), (b0, .inl (G.2.1, 160, .inl (gPf tB 40)))] := hD.sub [1, 2] (by decide) rfl
                  have hFc := va_free (wc := [(rd, .inr (1, [.ref tt, .ref b0, .int 40, .int 0, .int 40, .int 30, .int (nI 0)])), (b0, .inl (G.2.1, 160, .inl (gPf tB 40)))]) hD hS hA [1, 2] rfl
                  refine va_callv (va_runV (As := [.int v1]) (rest := []) ⟨hx, hb, hml, hown, hts⟩ (c_X1_add l G rd tt b0 (gPf tB 40) 40 0 40 30 0 v1 H.size (by decide)) (cwV 1 hts gX5_feed_X1_add rfl rfl rfl (by decide +kernel) ⟨Nat.le_of_ble_eq_true rfl, Nat.le_of_ble_eq_true rfl⟩) ⟨gPre_blind, va_recv hK hPc (ci := 1) (q0 := 0) rfl rfl, fun U hU hW => gPre_of hU hW hK hPc hDc⟩ rfl rfl hl.1 rfl (lv_room (Nat.le_of_ble_eq_true rfl)) dX5_feed_125 ⟨Nat.le_of_ble_eq_true rfl, Nat.le_of_ble_eq_true rfl⟩) hS (fun q _ h => hFc q h) hFc (fun u t H locs ht hvm w_49 hB hz1 hk1 hS => ?_)
                  obtain ⟨hP1, hK1, hD1⟩ := hB
                  rw [ht] at hP1
                  have hP1 : va_P G.1 vwCl [(rd, .inr (1, [.ref tt, .ref b0, .int 40, .int 0, .int 40, .int 30, .int 1])), (b0, .inl (G.2.1, 160, .inl (upd (gPf tB 40) 0 v1)))] H := hP1
                  have hD1 : va_D (va_A [(rd, .inr (1, [.ref tt, .ref b0, .int 40, .int 0, .int 40, .int 30, .int (nI 0)])), (b0, .inl (G.2.1, 160, .inl (gPf tB 40)))] _) [(rd, .inr (1, [.ref tt, .ref b0, .int 40, .int 0, .int 40, .int 30, .int 1])), (b0, .inl (G.2.1, 160, .inl (upd (gPf tB 40) 0 v1)))] := hD1
                  obtain ⟨hP, hD⟩ := va_join (wr := [(h0, .inr (5, [.ref tt, .ref rd, .ref nw, .ref th, .ref kp, .ref sh, .ref tu, .int 0]))]) (w1 := [(rd, .inr (1, [.ref tt, .ref b0, .int 40, .int 0, .int 40, .int 30, .int 1])), (b0, .inl (G.2.1, 160, .inl (upd (gPf tB 40) 0 v1)))]) hP hD [1, 2] [0] rfl rfl (by decide) (by decide) hk1 hFc hP1 hD1
                  have hP : va_P G.1 vwCl [(h0, .inr (5, [.ref tt, .ref rd, .ref nw, .ref th, .ref kp, .ref sh, .ref tu, .int 0])), (rd, .inr (1, [.ref tt, .ref b0, .int 40, .int 0, .int 40, .int 30, .int 1])), (b0, .inl (G.2.1, 160, .inl (upd (gPf tB 40) 0 v1)))] H := hP
                  have hD : va_D A [(h0, .inr (5, [.ref tt, .ref rd, .ref nw, .ref th, .ref kp, .ref sh, .ref tu, .int 0])), (rd, .inr (1, [.ref tt, .ref b0, .int 40, .int 0, .int 40, .int 30, .int 1])), (b0, .inl (G.2.1, 160, .inl (upd (gPf tB 40) 0 v1)))] := hD
                  refine lv_iinc (v := 1) (lv' := [(7, .int 1), (0, .ref h0), (1, .int v0), (2, .int v1), (3, .int v2), (4, .int v3), (5, .int v4), (6, .int v5)]) hx hb dX5_feed_128 hl (k := 0) rfl (by decide) (by decide) rfl (fun ls hl => ?_)
                  refine lv_goto (tgt := 72) hx hb dX5_feed_131 (by decide) ?_
                  refine lv_iload hx hb dX5_feed_72 (lv_at hl 0 rfl) ?_
                  refine lv_iload_n hx hb dX5_feed_74 rfl (lv_at hl 2 rfl) ?_
                  refine lv_icmp_ge (tgt := 134) hx hb dX5_feed_75 (by decide) (fun c_50 => ?_) (fun c_50 => ?_)
                  · exact absurd c_50 (by rw [hk]; decide)
                  refine lv_aload_n hx hb dX5_feed_78 rfl (lv_at hl 1 rfl) ?_
                  refine va_get (D := G.1) (ci := 5) (v := .ref rd) (C := RX5) (T := TX5) (N := 8) hx hb hts hiX5 hown hK hP 0 rfl rfl 1 (by decide) kf21 (fun _ h9 => h9) rfl dX5_feed_79 ?_
                  refine lv_iload hx hb dX5_feed_82 (lv_at hl 0 rfl) ?_
                  refine lv_if_ne (tgt := 91) hx hb dX5_feed_84 (by decide) (fun c_51 => ?_) (fun c_51 => ?_)
                  rotate_left
                  · exact absurd c_51 (by decide)
                  refine lv_iload hx hb dX5_feed_91 (lv_at hl 0 rfl) ?_
                  refine lv_iconst (v := 1) hx hb dX5_feed_93 (by decide) ?_
                  refine lv_icmp_ne (tgt := 101) hx hb dX5_feed_94 (by decide) (fun c_52 => ?_) (fun c_52 => ?_)
                  · exact absurd (by decide) c_52
                  refine lv_iload_n hx hb dX5_feed_97 rfl (lv_at hl 4 rfl) ?_
                  refine lv_goto (tgt := 125) hx hb dX5_feed_98 (by decide) ?_
                  have hPc : va_P G.1 vwCl [(rd, .inr (1, [.ref tt, .ref b0, .int 40, .int 0, .int 40, .int 30, .int (nI 1)])), (b0, .inl (G.2.1, 160, .inl (upd (gPf tB 40) 0 v1)))] H := hP.sub [1, 2] rfl
                  have hDc : va_D A [(rd, .inr (1, [.ref tt, .ref b0, .int 40, .int 0, .int 40, .int 30, .int (nI 1)])), (b0, .inl (G.2.1, 160, .inl (upd (gPf tB 40) 0 v1)))] := hD.sub [1, 2] (by decide) rfl
                  have hFc := va_free (wc := [(rd, .inr (1, [.ref tt, .ref b0, .int 40, .int 0, .int 40, .int 30, .int (nI 1)])), (b0, .inl (G.2.1, 160, .inl (upd (gPf tB 40) 0 v1)))]) hD hS hA [1, 2] rfl
                  refine va_callv (va_runV (As := [.int v2]) (rest := []) ⟨hx, hb, hml, hown, hts⟩ (c_X1_add l G rd tt b0 (upd (gPf tB 40) 0 v1) 40 0 40 30 1 v2 H.size (by decide)) (cwV 1 hts gX5_feed_X1_add rfl rfl rfl (by decide +kernel) ⟨Nat.le_of_ble_eq_true rfl, Nat.le_of_ble_eq_true rfl⟩) ⟨gPre_blind, va_recv hK hPc (ci := 1) (q0 := 0) rfl rfl, fun U hU hW => gPre_of hU hW hK hPc hDc⟩ rfl rfl hl.1 rfl (lv_room (Nat.le_of_ble_eq_true rfl)) dX5_feed_125 ⟨Nat.le_of_ble_eq_true rfl, Nat.le_of_ble_eq_true rfl⟩) hS (fun q _ h => hFc q h) hFc (fun u t H locs ht hvm w_54 hB hz1 hk1 hS => ?_)
                  obtain ⟨hP1, hK1, hD1⟩ := hB
                  rw [ht] at hP1
                  have hP1 : va_P G.1 vwCl [(rd, .inr (1, [.ref tt, .ref b0, .int 40, .int 0, .int 40, .int 30, .int 2])), (b0, .inl (G.2.1, 160, .inl (upd (upd (gPf tB 40) 0 v1) 1 v2)))] H := hP1
                  have hD1 : va_D (va_A [(rd, .inr (1, [.ref tt, .ref b0, .int 40, .int 0, .int 40, .int 30, .int (nI 1)])), (b0, .inl (G.2.1, 160, .inl (upd (gPf tB 40) 0 v1)))] _) [(rd, .inr (1, [.ref tt, .ref b0, .int 40, .int 0, .int 40, .int 30, .int 2])), (b0, .inl (G.2.1, 160, .inl (upd (upd (gPf tB 40) 0 v1) 1 v2)))] := hD1
                  obtain ⟨hP, hD⟩ := va_join (wr := [(h0, .inr (5, [.ref tt, .ref rd, .ref nw, .ref th, .ref kp, .ref sh, .ref tu, .int 0]))]) (w1 := [(rd, .inr (1, [.ref tt, .ref b0, .int 40, .int 0, .int 40, .int 30, .int 2])), (b0, .inl (G.2.1, 160, .inl (upd (upd (gPf tB 40) 0 v1) 1 v2)))]) hP hD [1, 2] [0] rfl rfl (by decide) (by decide) hk1 hFc hP1 hD1
                  have hP : va_P G.1 vwCl [(h0, .inr (5, [.ref tt, .ref rd, .ref nw, .ref th, .ref kp, .ref sh, .ref tu, .int 0])), (rd, .inr (1, [.ref tt, .ref b0, .int 40, .int 0, .int 40, .int 30, .int 2])), (b0, .inl (G.2.1, 160, .inl (upd (upd (gPf tB 40) 0 v1) 1 v2)))] H := hP
                  have hD : va_D A [(h0, .inr (5, [.ref tt, .ref rd, .ref nw, .ref th, .ref kp, .ref sh, .ref tu, .int 0])), (rd, .inr (1, [.ref tt, .ref b0, .int 40, .int 0, .int 40, .int 30, .int 2])), (b0, .inl (G.2.1, 160, .inl (upd (upd (gPf tB 40) 0 v1) 1 v2)))] := hD
                  refine lv_iinc (v := 2) (lv' := [(7, .int 2), (0, .ref h0), (1, .int v0), (2, .int v1), (3, .int v2), (4, .int v3), (5, .int v4), (6, .int v5)]) hx hb dX5_feed_128 hl (k := 0) rfl (by decide) (by decide) rfl (fun ls hl => ?_)
                  refine lv_goto (tgt := 72) hx hb dX5_feed_131 (by decide) ?_
                  refine lv_iload hx hb dX5_feed_72 (lv_at hl 0 rfl) ?_
                  refine lv_iload_n hx hb dX5_feed_74 rfl (lv_at hl 2 rfl) ?_
                  refine lv_icmp_ge (tgt := 134) hx hb dX5_feed_75 (by decide) (fun c_55 => ?_) (fun c_55 => ?_)
                  · exact absurd c_55 (by rw [hk]; decide)
                  refine lv_aload_n hx hb dX5_feed_78 rfl (lv_at hl 1 rfl) ?_
                  refine va_get (D := G.1) (ci := 5) (v := .ref rd) (C := RX5) (T := TX5) (N := 8) hx hb hts hiX5 hown hK hP 0 rfl rfl 1 (by decide) kf21 (fun _ h9 => h9) rfl dX5_feed_79 ?_
                  refine lv_iload hx hb dX5_feed_82 (lv_at hl 0 rfl) ?_
                  refine lv_if_ne (tgt := 91) hx hb dX5_feed_84 (by decide) (fun c_56 => ?_) (fun c_56 => ?_)
                  rotate_left
                  · exact absurd c_56 (by decide)
                  refine lv_iload hx hb dX5_feed_91 (lv_at hl 0 rfl) ?_
                  refine lv_iconst (v := 1) hx hb dX5_feed_93 (by decide) ?_
                  refine lv_icmp_ne (tgt := 101) hx hb dX5_feed_94 (by decide) (fun c_57 => ?_) (fun c_57 => ?_)
                  rotate_left
                  · exact absurd c_57 (by decide)
                  refine lv_iload hx hb dX5_feed_101 (lv_at hl 0 rfl) ?_
                  refine lv_iconst (v := 2) hx hb dX5_feed_103 (by decide) ?_
                  refine lv_icmp_ne (tgt := 112) hx hb dX5_feed_104 (by decide) (fun c_58 => ?_) (fun c_58 => ?_)
                  · exact absurd (by decide) c_58
                  refine lv_iload hx hb dX5_feed_107 (lv_at hl 5 rfl) ?_
                  refine lv_goto (tgt := 125) hx hb dX5_feed_109 (by decide) ?_
                  have hPc : va_P G.1 vwCl [(rd, .inr (1, [.ref tt, .ref b0, .int 40, .int 0, .int 40, .int 30, .int (nI 2)])), (b0, .inl (G.2.1, 160, .inl (upd (upd (gPf tB 40) 0 v1) 1 v2)))] H := hP.sub [1, 2] rfl
                  have hDc : va_D A [(rd, .inr (1, [.ref tt, .ref b0, .int 40, .int 0, .int 40, .int 30, .int (nI 2)])), (b0, .inl (G.2.1, 160, .inl (upd (upd (gPf tB 40) 0 v1) 1 v2)))] := hD.sub [1, 2] (by decide) rfl
                  have hFc := va_free (wc := [(rd, .inr (1, [.ref tt, .ref b0, .int 40, .int 0, .int 40, .int 30, .int (nI 2)])), (b0, .inl (G.2.1, 160, .inl (upd (upd (gPf tB 40) 0 v1) 1 v2)))]) hD hS hA [1, 2] rfl
                  refine va_callv (va_runV (As := [.int v3]) (rest := []) ⟨hx, hb, hml, hown, hts⟩ (c_X1_add l G rd tt b0 (upd (upd (gPf tB 40) 0 v1) 1 v2) 40 0 40 30 2 v3 H.size (by decide)) (cwV 1 hts gX5_feed_X1_add rfl rfl rfl (by decide +kernel) ⟨Nat.le_of_ble_eq_true rfl, Nat.le_of_ble_eq_true rfl⟩) ⟨gPre_blind, va_recv hK hPc (ci := 1) (q0 := 0) rfl rfl, fun U hU hW => gPre_of hU hW hK hPc hDc⟩ rfl rfl hl.1 rfl (lv_room (Nat.le_of_ble_eq_true rfl)) dX5_feed_125 ⟨Nat.le_of_ble_eq_true rfl, Nat.le_of_ble_eq_true rfl⟩) hS (fun q _ h => hFc q h) hFc (fun u t H locs ht hvm w_60 hB hz1 hk1 hS => ?_)
                  obtain ⟨hP1, hK1, hD1⟩ := hB
                  rw [ht] at hP1
                  have hP1 : va_P G.1 vwCl [(rd, .inr (1, [.ref tt, .ref b0, .int 40, .int 0, .int 40, .int 30, .int 3])), (b0, .inl (G.2.1, 160, .inl (upd (upd (upd (gPf tB 40) 0 v1) 1 v2) 2 v3)))] H := hP1
                  have hD1 : va_D (va_A [(rd, .inr (1, [.ref tt, .ref b0, .int 40, .int 0, .int 40, .int 30, .int (nI 2)])), (b0, .inl (G.2.1, 160, .inl (upd (upd (gPf tB 40) 0 v1) 1 v2)))] _) [(rd, .inr (1, [.ref tt, .ref b0, .int 40, .int 0, .int 40, .int 30, .int 3])), (b0, .inl (G.2.1, 160, .inl (upd (upd (upd (gPf tB 40) 0 v1) 1 v2) 2 v3)))] := hD1
                  obtain ⟨hP, hD⟩ := va_join (wr := [(h0, .inr (5, [.ref tt, .ref rd, .ref nw, .ref th, .ref kp, .ref sh, .ref tu, .int 0]))]) (w1 := [(rd, .inr (1, [.ref tt, .ref b0, .int 40, .int 0, .int 40, .int 30, .int 3])), (b0, .inl (G.2.1, 160, .inl (upd (upd (upd (gPf tB 40) 0 v1) 1 v2) 2 v3)))]) hP hD [1, 2] [0] rfl rfl (by decide) (by decide) hk1 hFc hP1 hD1
                  have hP : va_P G.1 vwCl [(h0, .inr (5, [.ref tt, .ref rd, .ref nw, .ref th, .ref kp, .ref sh, .ref tu, .int 0])), (rd, .inr (1, [.ref tt, .ref b0, .int 40, .int 0, .int 40, .int 30, .int 3])), (b0, .inl (G.2.1, 160, .inl (upd (upd (upd (gPf tB 40) 0 v1) 1 v2) 2 v3)))] H := hP
                  have hD : va_D A [(h0, .inr (5, [.ref tt, .ref rd, .ref nw, .ref th, .ref kp, .ref sh, .ref tu, .int 0])), (rd, .inr (1, [.ref tt, .ref b0, .int 40, .int 0, .int 40, .int 30, .int 3])), (b0, .inl (G.2.1, 160, .inl (upd (upd (upd (gPf tB 40) 0 v1) 1 v2) 2 v3)))] := hD
                  refine lv_iinc (v := 3) (lv' := [(7, .int 3), (0, .ref h0), (1, .int v0), (2, .int v1), (3, .int v2), (4, .int v3), (5, .int v4), (6, .int v5)]) hx hb dX5_feed_128 hl (k := 0) rfl (by decide) (by decide) rfl (fun ls hl => ?_)
                  refine lv_goto (tgt := 72) hx hb dX5_feed_131 (by decide) ?_
                  refine lv_iload hx hb dX5_feed_72 (lv_at hl 0 rfl) ?_
                  refine lv_iload_n hx hb dX5_feed_74 rfl (lv_at hl 2 rfl) ?_
                  refine lv_icmp_ge (tgt := 134) hx hb dX5_feed_75 (by decide) (fun c_61 => ?_) (fun c_61 => ?_)
                  rotate_left
                  · exact absurd (by rw [hk]; decide) c_61
                  refine lv_aload_n hx hb dX5_feed_134 rfl (lv_at hl 1 rfl) ?_
                  refine va_get (D := G.1) (ci := 5) (v := .ref rd) (C := RX5) (T := TX5) (N := 8) hx hb hts hiX5 hown hK hP 0 rfl rfl 1 (by decide) kf21 (fun _ h9 => h9) rfl dX5_feed_135 ?_
                  refine va_get (D := G.1) (ci := 1) (v := .int 3) (C := RX1) (T := TX1) (N := 7) hx hb hts hiX1 hown hK hP 1 rfl rfl 6 (by decide) kf84 (fun _ h9 => h9) rfl dX5_feed_138 ?_
                  have hpost : (fun (r : Int32) (u : Unit) => match u with | _ => r = (if (1 ≤ v0 ∧ v0 ≤ 5) ∧ (0 ≤ v1 ∧ v1 ≤ 255) ∧ (0 ≤ v2 ∧ v2 ≤ 255) ∧ (0 ≤ v3 ∧ v3 ≤ 255) ∧ (0 ≤ v4 ∧ v4 ≤ 255) ∧ (0 ≤ v5 ∧ v5 ≤ 255) then v0 else -2)) 3 () := pp_X5_feed_0_9 v0 v1 v2 v3 v4 v5 c_1 c_2 p_6 p_11 p_16 p_21 p_26 hk
                  exact W.iret (v := 3) hx hb hr (fun t ht hW => ⟨⟨3, (), rfl, hpost, trivial⟩, hS.F ht⟩) hS.2.2 dX5_feed_141
                · skip
                  refine lv_aload_n hx hb dX5_feed_51 rfl (lv_at hl 0 rfl) ?_
                  refine va_get (D := G.1) (ci := 5) (v := .ref rd) (C := RX5) (T := TX5) (N := 8) hx hb hts hiX5 hown hK hP 0 rfl rfl 1 (by decide) kf21 (fun _ h9 => h9) rfl dX5_feed_52 ?_
                  refine va_get (D := G.1) (ci := 1) (v := .int 0) (C := RX1) (T := TX1) (N := 7) hx hb hts hiX1 hown hK hP 1 rfl rfl 6 (by decide) kf84 (fun _ h9 => h9) rfl dX5_feed_55 ?_
                  refine lv_iload_n hx hb dX5_feed_58 rfl (lv_at hl 1 rfl) ?_
                  refine lv_iadd hx hb dX5_feed_59 ?_
                  refine lv_sipush (v := 160) hx hb dX5_feed_60 (by decide) ?_
                  refine lv_icmp_le (tgt := 69) hx hb dX5_feed_63 (by decide) (fun c_62 => ?_) (fun c_62 => ?_)
                  rotate_left
                  · exact absurd (by rw [hk]; decide) c_62
                  refine lv_iconst (v := 0) hx hb dX5_feed_69 (by decide) ?_
                  refine lv_istore (lv' := [(7, .int 0), (0, .ref h0), (1, .int v0), (2, .int v1), (3, .int v2), (4, .int v3), (5, .int v4), (6, .int v5)]) hx hb dX5_feed_70 hl (by decide) rfl (fun ls hl => ?_)
                  refine lv_iload hx hb dX5_feed_72 (lv_at hl 0 rfl) ?_
                  refine lv_iload_n hx hb dX5_feed_74 rfl (lv_at hl 2 rfl) ?_
                  refine lv_icmp_ge (tgt := 134) hx hb dX5_feed_75 (by decide) (fun c_63 => ?_) (fun c_63 => ?_)
                  · exact absurd c_63 (by rw [hk]; decide)
                  refine lv_aload_n hx hb dX5_feed_78 rfl (lv_at hl 1 rfl) ?_
                  refine va_get (D := G.1) (ci := 5) (v := .ref rd) (C := RX5) (T := TX5) (N := 8) hx hb hts hiX5 hown hK hP 0 rfl rfl 1 (by decide) kf21 (fun _ h9 => h9) rfl dX5_feed_79 ?_
                  refine lv_iload hx hb dX5_feed_82 (lv_at hl 0 rfl) ?_
                  refine lv_if_ne (tgt := 91) hx hb dX5_feed_84 (by decide) (fun c_64 => ?_) (fun c_64 => ?_)
                  · exact absurd (by decide) c_64
                  refine lv_iload_n hx hb dX5_feed_87 rfl (lv_at hl 3 rfl) ?_
                  refine lv_goto (tgt := 125) hx hb dX5_feed_88 (by decide) ?_
                  have hPc : va_P G.1 vwCl [(rd, .inr (1, [.ref tt, .ref b0, .int 40, .int 0, .int 40, .int 30, .int (nI 0)])), (b0, .inl (G.2.1, 160, .inl (gPf tB 40)))] H := hP.sub [1, 2] rfl
                  have hDc : va_D A [(rd, .inr (1, [.ref tt, .ref b0, .int 40, .int 0, .int 40, .int 30, .int (nI 0)])), (b0, .inl (G.2.1, 160, .inl (gPf tB 40)))] := hD.sub [1, 2] (by decide) rfl
                  have hFc := va_free (wc := [(rd, .inr (1, [.ref tt, .ref b0, .int 40, .int 0, .int 40, .int 30, .int (nI 0)])), (b0, .inl (G.2.1, 160, .inl (gPf tB 40)))]) hD hS hA [1, 2] rfl
                  refine va_callv (va_runV (As := [.int v1]) (rest := []) ⟨hx, hb, hml, hown, hts⟩ (c_X1_add l G rd tt b0 (gPf tB 40) 40 0 40 30 0 v1 H.size (by decide)) (cwV 1 hts gX5_feed_X1_add rfl rfl rfl (by decide +kernel) ⟨Nat.le_of_ble_eq_true rfl, Nat.le_of_ble_eq_true rfl⟩) ⟨gPre_blind, va_recv hK hPc (ci := 1) (q0 := 0) rfl rfl, fun U hU hW => gPre_of hU hW hK hPc hDc⟩ rfl rfl hl.1 rfl (lv_room (Nat.le_of_ble_eq_true rfl)) dX5_feed_125 ⟨Nat.le_of_ble_eq_true rfl, Nat.le_of_ble_eq_true rfl⟩) hS (fun q _ h => hFc q h) hFc (fun u t H locs ht hvm w_66 hB hz1 hk1 hS => ?_)
                  obtain ⟨hP1, hK1, hD1⟩ := hB
                  rw [ht] at hP1
                  have hP1 : va_P G.1 vwCl [(rd, .inr (1, [.ref tt, .ref b0, .int 40, .int 0, .int 40, .int 30, .int 1])), (b0, .inl (G.2.1, 160, .inl (upd (gPf tB 40) 0 v1)))] H := hP1
                  have hD1 : va_D (va_A [(rd, .inr (1, [.ref tt, .ref b0, .int 40, .int 0, .int 40, .int 30, .int (nI 0)])), (b0, .inl (G.2.1, 160, .inl (gPf tB 40)))] _) [(rd, .inr (1, [.ref tt, .ref b0, .int 40, .int 0, .int 40, .int 30, .int 1])), (b0, .inl (G.2.1, 160, .inl (upd (gPf tB 40) 0 v1)))] := hD1
                  obtain ⟨hP, hD⟩ := va_join (wr := [(h0, .inr (5, [.ref tt, .ref rd, .ref nw, .ref th, .ref kp, .ref sh, .ref tu, .int 0]))]) (w1 := [(rd, .inr (1, [.ref tt, .ref b0, .int 40, .int 0, .int 40, .int 30, .int 1])), (b0, .inl (G.2.1, 160, .inl (upd (gPf tB 40) 0 v1)))]) hP hD [1, 2] [0] rfl rfl (by decide) (by decide) hk1 hFc hP1 hD1
                  have hP : va_P G.1 vwCl [(h0, .inr (5, [.ref tt, .ref rd, .ref nw, .ref th, .ref kp, .ref sh, .ref tu, .int 0])), (rd, .inr (1, [.ref tt, .ref b0, .int 40, .int 0, .int 40, .int 30, .int 1])), (b0, .inl (G.2.1, 160, .inl (upd (gPf tB 40) 0 v1)))] H := hP
                  have hD : va_D A [(h0, .inr (5, [.ref tt, .ref rd, .ref nw, .ref th, .ref kp, .ref sh, .ref tu, .int 0])), (rd, .inr (1, [.ref tt, .ref b0, .int 40, .int 0, .int 40, .int 30, .int 1])), (b0, .inl (G.2.1, 160, .inl (upd (gPf tB 40) 0 v1)))] := hD
                  refine lv_iinc (v := 1) (lv' := [(7, .int 1), (0, .ref h0), (1, .int v0), (2, .int v1), (3, .int v2), (4, .int v3), (5, .int v4), (6, .int v5)]) hx hb dX5_feed_128 hl (k := 0) rfl (by decide) (by decide) rfl (fun ls hl => ?_)
                  refine lv_goto (tgt := 72) hx hb dX5_feed_131 (by decide) ?_
                  refine lv_iload hx hb dX5_feed_72 (lv_at hl 0 rfl) ?_
                  refine lv_iload_n hx hb dX5_feed_74 rfl (lv_at hl 2 rfl) ?_
                  refine lv_icmp_ge (tgt := 134) hx hb dX5_feed_75 (by decide) (fun c_67 => ?_) (fun c_67 => ?_)
                  · exact absurd c_67 (by rw [hk]; decide)
                  refine lv_aload_n hx hb dX5_feed_78 rfl (lv_at hl 1 rfl) ?_
                  refine va_get (D := G.1) (ci := 5) (v := .ref rd) (C := RX5) (T := TX5) (N := 8) hx hb hts hiX5 hown hK hP 0 rfl rfl 1 (by decide) kf21 (fun _ h9 => h9) rfl dX5_feed_79 ?_
                  refine lv_iload hx hb dX5_feed_82 (lv_at hl 0 rfl) ?_
                  refine lv_if_ne (tgt := 91) hx hb dX5_feed_84 (by decide) (fun c_68 => ?_) (fun c_68 => ?_)
                  rotate_left
                  · exact absurd c_68 (by decide)
                  refine lv_iload hx hb dX5_feed_91 (lv_at hl 0 rfl) ?_
                  refine lv_iconst (v := 1) hx hb dX5_feed_93 (by decide) ?_
                  refine lv_icmp_ne (tgt := 101) hx hb dX5_feed_94 (by decide) (fun c_69 => ?_) (fun c_69 => ?_)
                  · exact absurd (by decide) c_69
                  refine lv_iload_n hx hb dX5_feed_97 rfl (lv_at hl 4 rfl) ?_
                  refine lv_goto (tgt := 125) hx hb dX5_feed_98 (by decide) ?_
                  have hPc : va_P G.1 vwCl [(rd, .inr (1, [.ref tt, .ref b0, .int 40, .int 0, .int 40, .int 30, .int (nI 1)])), (b0, .inl (G.2.1, 160, .inl (upd (gPf tB 40) 0 v1)))] H := hP.sub [1, 2] rfl
                  have hDc : va_D A [(rd, .inr (1, [.ref tt, .ref b0, .int 40, .int 0, .int 40, .int 30, .int (nI 1)])), (b0, .inl (G.2.1, 160, .inl (upd (gPf tB 40) 0 v1)))] := hD.sub [1, 2] (by decide) rfl
                  have hFc := va_free (wc := [(rd, .inr (1, [.ref tt, .ref b0, .int 40, .int 0, .int 40, .int 30, .int (nI 1)])), (b0, .inl (G.2.1, 160, .inl (upd (gPf tB 40) 0 v1)))]) hD hS hA [1, 2] rfl
                  refine va_callv (va_runV (As := [.int v2]) (rest := []) ⟨hx, hb, hml, hown, hts⟩ (c_X1_add l G rd tt b0 (upd (gPf tB 40) 0 v1) 40 0 40 30 1 v2 H.size (by decide)) (cwV 1 hts gX5_feed_X1_add rfl rfl rfl (by decide +kernel) ⟨Nat.le_of_ble_eq_true rfl, Nat.le_of_ble_eq_true rfl⟩) ⟨gPre_blind, va_recv hK hPc (ci := 1) (q0 := 0) rfl rfl, fun U hU hW => gPre_of hU hW hK hPc hDc⟩ rfl rfl hl.1 rfl (lv_room (Nat.le_of_ble_eq_true rfl)) dX5_feed_125 ⟨Nat.le_of_ble_eq_true rfl, Nat.le_of_ble_eq_true rfl⟩) hS (fun q _ h => hFc q h) hFc (fun u t H locs ht hvm w_71 hB hz1 hk1 hS => ?_)
                  obtain ⟨hP1, hK1, hD1⟩ := hB
                  rw [ht] at hP1
                  have hP1 : va_P G.1 vwCl [(rd, .inr (1, [.ref tt, .ref b0, .int 40, .int 0, .int 40, .int 30, .int 2])), (b0, .inl (G.2.1, 160, .inl (upd (upd (gPf tB 40) 0 v1) 1 v2)))] H := hP1
                  have hD1 : va_D (va_A [(rd, .inr (1, [.ref tt, .ref b0, .int 40, .int 0, .int 40, .int 30, .int (nI 1)])), (b0, .inl (G.2.1, 160, .inl (upd (gPf tB 40) 0 v1)))] _) [(rd, .inr (1, [.ref tt, .ref b0, .int 40, .int 0, .int 40, .int 30, .int 2])), (b0, .inl (G.2.1, 160, .inl (upd (upd (gPf tB 40) 0 v1) 1 v2)))] := hD1
                  obtain ⟨hP, hD⟩ := va_join (wr := [(h0, .inr (5, [.ref tt, .ref rd, .ref nw, .ref th, .ref kp, .ref sh, .ref tu, .int 0]))]) (w1 := [(rd, .inr (1, [.ref tt, .ref b0, .int 40, .int 0, .int 40, .int 30, .int 2])), (b0, .inl (G.2.1, 160, .inl (upd (upd (gPf tB 40) 0 v1) 1 v2)))]) hP hD [1, 2] [0] rfl rfl (by decide) (by decide) hk1 hFc hP1 hD1
                  have hP : va_P G.1 vwCl [(h0, .inr (5, [.ref tt, .ref rd, .ref nw, .ref th, .ref kp, .ref sh, .ref tu, .int 0])), (rd, .inr (1, [.ref tt, .ref b0, .int 40, .int 0, .int 40, .int 30, .int 2])), (b0, .inl (G.2.1, 160, .inl (upd (upd (gPf tB 40) 0 v1) 1 v2)))] H := hP
                  have hD : va_D A [(h0, .inr (5, [.ref tt, .ref rd, .ref nw, .ref th, .ref kp, .ref sh, .ref tu, .int 0])), (rd, .inr (1, [.ref tt, .ref b0, .int 40, .int 0, .int 40, .int 30, .int 2])), (b0, .inl (G.2.1, 160, .inl (upd (upd (gPf tB 40) 0 v1) 1 v2)))] := hD
                  refine lv_iinc (v := 2) (lv' := [(7, .int 2), (0, .ref h0), (1, .int v0), (2, .int v1), (3, .int v2), (4, .int v3), (5, .int v4), (6, .int v5)]) hx hb dX5_feed_128 hl (k := 0) rfl (by decide) (by decide) rfl (fun ls hl => ?_)
                  refine lv_goto (tgt := 72) hx hb dX5_feed_131 (by decide) ?_
                  refine lv_iload hx hb dX5_feed_72 (lv_at hl 0 rfl) ?_
                  refine lv_iload_n hx hb dX5_feed_74 rfl (lv_at hl 2 rfl) ?_
                  refine lv_icmp_ge (tgt := 134) hx hb dX5_feed_75 (by decide) (fun c_72 => ?_) (fun c_72 => ?_)
                  · exact absurd c_72 (by rw [hk]; decide)
                  refine lv_aload_n hx hb dX5_feed_78 rfl (lv_at hl 1 rfl) ?_
                  refine va_get (D := G.1) (ci := 5) (v := .ref rd) (C := RX5) (T := TX5) (N := 8) hx hb hts hiX5 hown hK hP 0 rfl rfl 1 (by decide) kf21 (fun _ h9 => h9) rfl dX5_feed_79 ?_
                  refine lv_iload hx hb dX5_feed_82 (lv_at hl 0 rfl) ?_
                  refine lv_if_ne (tgt := 91) hx hb dX5_feed_84 (by decide) (fun c_73 => ?_) (fun c_73 => ?_)
                  rotate_left
                  · exact absurd c_73 (by decide)
                  refine lv_iload hx hb dX5_feed_91 (lv_at hl 0 rfl) ?_
                  refine lv_iconst (v := 1) hx hb dX5_feed_93 (by decide) ?_
                  refine lv_icmp_ne (tgt := 101) hx hb dX5_feed_94 (by decide) (fun c_74 => ?_) (fun c_74 => ?_)
                  rotate_left
                  · exact absurd c_74 (by decide)
                  refine lv_iload hx hb dX5_feed_101 (lv_at hl 0 rfl) ?_
                  refine lv_iconst (v := 2) hx hb dX5_feed_103 (by decide) ?_
                  refine lv_icmp_ne (tgt := 112) hx hb dX5_feed_104 (by decide) (fun c_75 => ?_) (fun c_75 => ?_)
                  · exact absurd (by decide) c_75
                  refine lv_iload hx hb dX5_feed_107 (lv_at hl 5 rfl) ?_
                  refine lv_goto (tgt := 125) hx hb dX5_feed_109 (by decide) ?_
                  have hPc : va_P G.1 vwCl [(rd, .inr (1, [.ref tt, .ref b0, .int 40, .int 0, .int 40, .int 30, .int (nI 2)])), (b0, .inl (G.2.1, 160, .inl (upd (upd (gPf tB 40) 0 v1) 1 v2)))] H := hP.sub [1, 2] rfl
                  have hDc : va_D A [(rd, .inr (1, [.ref tt, .ref b0, .int 40, .int 0, .int 40, .int 30, .int (nI 2)])), (b0, .inl (G.2.1, 160, .inl (upd (upd (gPf tB 40) 0 v1) 1 v2)))] := hD.sub [1, 2] (by decide) rfl
                  have hFc := va_free (wc := [(rd, .inr (1, [.ref tt, .ref b0, .int 40, .int 0, .int 40, .int 30, .int (nI 2)])), (b0, .inl (G.2.1, 160, .inl (upd (upd (gPf tB 40) 0 v1) 1 v2)))]) hD hS hA [1, 2] rfl
                  refine va_callv (va_runV (As := [.int v3]) (rest := []) ⟨hx, hb, hml, hown, hts⟩ (c_X1_add l G rd tt b0 (upd (upd (gPf tB 40) 0 v1) 1 v2) 40 0 40 30 2 v3 H.size (by decide)) (cwV 1 hts gX5_feed_X1_add rfl rfl rfl (by decide +kernel) ⟨Nat.le_of_ble_eq_true rfl, Nat.le_of_ble_eq_true rfl⟩) ⟨gPre_blind, va_recv hK hPc (ci := 1) (q0 := 0) rfl rfl, fun U hU hW => gPre_of hU hW hK hPc hDc⟩ rfl rfl hl.1 rfl (lv_room (Nat.le_of_ble_eq_true rfl)) dX5_feed_125 ⟨Nat.le_of_ble_eq_true rfl, Nat.le_of_ble_eq_true rfl⟩) hS (fun q _ h => hFc q h) hFc (fun u t H locs ht hvm w_77 hB hz1 hk1 hS => ?_)
                  obtain ⟨hP1, hK1, hD1⟩ := hB
                  rw [ht] at hP1
                  have hP1 : va_P G.1 vwCl [(rd, .inr (1, [.ref tt, .ref b0, .int 40, .int 0, .int 40, .int 30, .int 3])), (b0, .inl (G.2.1, 160, .inl (upd (upd (upd (gPf tB 40) 0 v1) 1 v2) 2 v3)))] H := hP1
                  have hD1 : va_D (va_A [(rd, .inr (1, [.ref tt, .ref b0, .int 40, .int 0, .int 40, .int 30, .int (nI 2)])), (b0, .inl (G.2.1, 160, .inl (upd (upd (gPf tB 40) 0 v1) 1 v2)))] _) [(rd, .inr (1, [.ref tt, .ref b0, .int 40, .int 0, .int 40, .int 30, .int 3])), (b0, .inl (G.2.1, 160, .inl (upd (upd (upd (gPf tB 40) 0 v1) 1 v2) 2 v3)))] := hD1
                  obtain ⟨hP, hD⟩ := va_join (wr := [(h0, .inr (5, [.ref tt, .ref rd, .ref nw, .ref th, .ref kp, .ref sh, .ref tu, .int 0]))]) (w1 := [(rd, .inr (1, [.ref tt, .ref b0, .int 40, .int 0, .int 40, .int 30, .int 3])), (b0, .inl (G.2.1, 160, .inl (upd (upd (upd (gPf tB 40) 0 v1) 1 v2) 2 v3)))]) hP hD [1, 2] [0] rfl rfl (by decide) (by decide) hk1 hFc hP1 hD1
                  have hP : va_P G.1 vwCl [(h0, .inr (5, [.ref tt, .ref rd, .ref nw, .ref th, .ref kp, .ref sh, .ref tu, .int 0])), (rd, .inr (1, [.ref tt, .ref b0, .int 40, .int 0, .int 40, .int 30, .int 3])), (b0, .inl (G.2.1, 160, .inl (upd (upd (upd (gPf tB 40) 0 v1) 1 v2) 2 v3)))] H := hP
                  have hD : va_D A [(h0, .inr (5, [.ref tt, .ref rd, .ref nw, .ref th, .ref kp, .ref sh, .ref tu, .int 0])), (rd, .inr (1, [.ref tt, .ref b0, .int 40, .int 0, .int 40, .int 30, .int 3])), (b0, .inl (G.2.1, 160, .inl (upd (upd (upd (gPf tB 40) 0 v1) 1 v2) 2 v3)))] := hD
                  refine lv_iinc (v := 3) (lv' := [(7, .int 3), (0, .ref h0), (1, .int v0), (2, .int v1), (3, .int v2), (4, .int v3), (5, .int v4), (6, .int v5)]) hx hb dX5_feed_128 hl (k := 0) rfl (by decide) (by decide) rfl (fun ls hl => ?_)
                  refine lv_goto (tgt := 72) hx hb dX5_feed_131 (by decide) ?_
                  refine lv_iload hx hb dX5_feed_72 (lv_at hl 0 rfl) ?_
                  refine lv_iload_n hx hb dX5_feed_74 rfl (lv_at hl 2 rfl) ?_
                  refine lv_icmp_ge (tgt := 134) hx hb dX5_feed_75 (by decide) (fun c_78 => ?_) (fun c_78 => ?_)
                  · exact absurd c_78 (by rw [hk]; decide)
                  refine lv_aload_n hx hb dX5_feed_78 rfl (lv_at hl 1 rfl) ?_
                  refine va_get (D := G.1) (ci := 5) (v := .ref rd) (C := RX5) (T := TX5) (N := 8) hx hb hts hiX5 hown hK hP 0 rfl rfl 1 (by decide) kf21 (fun _ h9 => h9) rfl dX5_feed_79 ?_
                  refine lv_iload hx hb dX5_feed_82 (lv_at hl 0 rfl) ?_
                  refine lv_if_ne (tgt := 91) hx hb dX5_feed_84 (by decide) (fun c_79 => ?_) (fun c_79 => ?_)
                  rotate_left
                  · exact absurd c_79 (by decide)
                  refine lv_iload hx hb dX5_feed_91 (lv_at hl 0 rfl) ?_
                  refine lv_iconst (v := 1) hx hb dX5_feed_93 (by decide) ?_
                  refine lv_icmp_ne (tgt := 101) hx hb dX5_feed_94 (by decide) (fun c_80 => ?_) (fun c_80 => ?_)
                  rotate_left
                  · exact absurd c_80 (by decide)
                  refine lv_iload hx hb dX5_feed_101 (lv_at hl 0 rfl) ?_
                  refine lv_iconst (v := 2) hx hb dX5_feed_103 (by decide) ?_
                  refine lv_icmp_ne (tgt := 112) hx hb dX5_feed_104 (by decide) (fun c_81 => ?_) (fun c_81 => ?_)
                  rotate_left
                  · exact absurd c_81 (by decide)
                  refine lv_iload hx hb dX5_feed_112 (lv_at hl 0 rfl) ?_
                  refine lv_iconst (v := 3) hx hb dX5_feed_114 (by decide) ?_
                  refine lv_icmp_ne (tgt := 123) hx hb dX5_feed_115 (by decide) (fun c_82 => ?_) (fun c_82 => ?_)
                  · exact absurd (by decide) c_82
                  refine lv_iload hx hb dX5_feed_118 (lv_at hl 6 rfl) ?_
                  refine lv_goto (tgt := 125) hx hb dX5_feed_120 (by decide) ?_
                  have hPc : va_P G.1 vwCl [(rd, .inr (1, [.ref tt, .ref b0, .int 40, .int 0, .int 40, .int 30, .int (nI 3)])), (b0, .inl (G.2.1, 160, .inl (upd (upd (upd (gPf tB 40) 0 v1) 1 v2) 2 v3)))] H := hP.sub [1, 2] rfl
                  have hDc : va_D A [(rd, .inr (1, [.ref tt, .ref b0, .int 40, .int 0, .int 40, .int 30, .int (nI 3)])), (b0, .inl (G.2.1, 160, .inl (upd (upd (upd (gPf tB 40) 0 v1) 1 v2) 2 v3)))] := hD.sub [1, 2] (by decide) rfl
                  have hFc := va_free (wc := [(rd, .inr (1, [.ref tt, .ref b0, .int 40, .int 0, .int 40, .int 30, .int (nI 3)])), (b0, .inl (G.2.1, 160, .inl (upd (upd (upd (gPf tB 40) 0 v1) 1 v2) 2 v3)))]) hD hS hA [1, 2] rfl
                  refine va_callv (va_runV (As := [.int v4]) (rest := []) ⟨hx, hb, hml, hown, hts⟩ (c_X1_add l G rd tt b0 (upd (upd (upd (gPf tB 40) 0 v1) 1 v2) 2 v3) 40 0 40 30 3 v4 H.size (by decide)) (cwV 1 hts gX5_feed_X1_add rfl rfl rfl (by decide +kernel) ⟨Nat.le_of_ble_eq_true rfl, Nat.le_of_ble_eq_true rfl⟩) ⟨gPre_blind, va_recv hK hPc (ci := 1) (q0 := 0) rfl rfl, fun U hU hW => gPre_of hU hW hK hPc hDc⟩ rfl rfl hl.1 rfl (lv_room (Nat.le_of_ble_eq_true rfl)) dX5_feed_125 ⟨Nat.le_of_ble_eq_true rfl, Nat.le_of_ble_eq_true rfl⟩) hS (fun q _ h => hFc q h) hFc (fun u t H locs ht hvm w_84 hB hz1 hk1 hS => ?_)
                  obtain ⟨hP1, hK1, hD1⟩ := hB
                  rw [ht] at hP1
                  have hP1 : va_P G.1 vwCl [(rd, .inr (1, [.ref tt, .ref b0, .int 40, .int 0, .int 40, .int 30, .int 4])), (b0, .inl (G.2.1, 160, .inl (upd (upd (upd (upd (gPf tB 40) 0 v1) 1 v2) 2 v3) 3 v4)))] H := hP1
                  have hD1 : va_D (va_A [(rd, .inr (1, [.ref tt, .ref b0, .int 40, .int 0, .int 40, .int 30, .int (nI 3)])), (b0, .inl (G.2.1, 160, .inl (upd (upd (upd (gPf tB 40) 0 v1) 1 v2) 2 v3)))] _) [(rd, .inr (1, [.ref tt, .ref b0, .int 40, .int 0, .int 40, .int 30, .int 4])), (b0, .inl (G.2.1, 160, .inl (upd (upd (upd (upd (gPf tB 40) 0 v1) 1 v2) 2 v3) 3 v4)))] := hD1
                  obtain ⟨hP, hD⟩ := va_join (wr := [(h0, .inr (5, [.ref tt, .ref rd, .ref nw, .ref th, .ref kp, .ref sh, .ref tu, .int 0]))]) (w1 := [(rd, .inr (1, [.ref tt, .ref b0, .int 40, .int 0, .int 40, .int 30, .int 4])), (b0, .inl (G.2.1, 160, .inl (upd (upd (upd (upd (gPf tB 40) 0 v1) 1 v2) 2 v3) 3 v4)))]) hP hD [1, 2] [0] rfl rfl (by decide) (by decide) hk1 hFc hP1 hD1
                  have hP : va_P G.1 vwCl [(h0, .inr (5, [.ref tt, .ref rd, .ref nw, .ref th, .ref kp, .ref sh, .ref tu, .int 0])), (rd, .inr (1, [.ref tt, .ref b0, .int 40, .int 0, .int 40, .int 30, .int 4])), (b0, .inl (G.2.1, 160, .inl (upd (upd (upd (upd (gPf tB 40) 0 v1) 1 v2) 2 v3) 3 v4)))] H := hP
                  have hD : va_D A [(h0, .inr (5, [.ref tt, .ref rd, .ref nw, .ref th, .ref kp, .ref sh, .ref tu, .int 0])), (rd, .inr (1, [.ref tt, .ref b0, .int 40, .int 0, .int 40, .int 30, .int 4])), (b0, .inl (G.2.1, 160, .inl (upd (upd (upd (upd (gPf tB 40) 0 v1) 1 v2) 2 v3) 3 v4)))] := hD
                  refine lv_iinc (v := 4) (lv' := [(7, .int 4), (0, .ref h0), (1, .int v0), (2, .int v1), (3, .int v2), (4, .int v3), (5, .int v4), (6, .int v5)]) hx hb dX5_feed_128 hl (k := 0) rfl (by decide) (by decide) rfl (fun ls hl => ?_)
                  refine lv_goto (tgt := 72) hx hb dX5_feed_131 (by decide) ?_
                  refine lv_iload hx hb dX5_feed_72 (lv_at hl 0 rfl) ?_
                  refine lv_iload_n hx hb dX5_feed_74 rfl (lv_at hl 2 rfl) ?_
                  refine lv_icmp_ge (tgt := 134) hx hb dX5_feed_75 (by decide) (fun c_85 => ?_) (fun c_85 => ?_)
                  rotate_left
                  · exact absurd (by rw [hk]; decide) c_85
                  refine lv_aload_n hx hb dX5_feed_134 rfl (lv_at hl 1 rfl) ?_
                  refine va_get (D := G.1) (ci := 5) (v := .ref rd) (C := RX5) (T := TX5) (N := 8) hx hb hts hiX5 hown hK hP 0 rfl rfl 1 (by decide) kf21 (fun _ h9 => h9) rfl dX5_feed_135 ?_
                  refine va_get (D := G.1) (ci := 1) (v := .int 4) (C := RX1) (T := TX1) (N := 7) hx hb hts hiX1 hown hK hP 1 rfl rfl 6 (by decide) kf84 (fun _ h9 => h9) rfl dX5_feed_138 ?_
                  have hpost : (fun (r : Int32) (u : Unit) => match u with | _ => r = (if (1 ≤ v0 ∧ v0 ≤ 5) ∧ (0 ≤ v1 ∧ v1 ≤ 255) ∧ (0 ≤ v2 ∧ v2 ≤ 255) ∧ (0 ≤ v3 ∧ v3 ≤ 255) ∧ (0 ≤ v4 ∧ v4 ≤ 255) ∧ (0 ≤ v5 ∧ v5 ≤ 255) then v0 else -2)) 4 () := pp_X5_feed_0_10 v0 v1 v2 v3 v4 v5 c_1 c_2 p_6 p_11 p_16 p_21 p_26 hk
                  exact W.iret (v := 4) hx hb hr (fun t ht hW => ⟨⟨4, (), rfl, hpost, trivial⟩, hS.F ht⟩) hS.2.2 dX5_feed_141
                · skip
                  refine lv_aload_n hx hb dX5_feed_51 rfl (lv_at hl 0 rfl) ?_
                  refine va_get (D := G.1) (ci := 5) (v := .ref rd) (C := RX5) (T := TX5) (N := 8) hx hb hts hiX5 hown hK hP 0 rfl rfl 1 (by decide) kf21 (fun _ h9 => h9) rfl dX5_feed_52 ?_
                  refine va_get (D := G.1) (ci := 1) (v := .int 0) (C := RX1) (T := TX1) (N := 7) hx hb hts hiX1 hown hK hP 1 rfl rfl 6 (by decide) kf84 (fun _ h9 => h9) rfl dX5_feed_55 ?_
                  refine lv_iload_n hx hb dX5_feed_58 rfl (lv_at hl 1 rfl) ?_
                  refine lv_iadd hx hb dX5_feed_59 ?_
                  refine lv_sipush (v := 160) hx hb dX5_feed_60 (by decide) ?_
                  refine lv_icmp_le (tgt := 69) hx hb dX5_feed_63 (by decide) (fun c_86 => ?_) (fun c_86 => ?_)
                  rotate_left
                  · exact absurd (by rw [hk]; decide) c_86
                  refine lv_iconst (v := 0) hx hb dX5_feed_69 (by decide) ?_
                  refine lv_istore (lv' := [(7, .int 0), (0, .ref h0), (1, .int v0), (2, .int v1), (3, .int v2), (4, .int v3), (5, .int v4), (6, .int v5)]) hx hb dX5_feed_70 hl (by decide) rfl (fun ls hl => ?_)
                  refine lv_iload hx hb dX5_feed_72 (lv_at hl 0 rfl) ?_
                  refine lv_iload_n hx hb dX5_feed_74 rfl (lv_at hl 2 rfl) ?_
                  refine lv_icmp_ge (tgt := 134) hx hb dX5_feed_75 (by decide) (fun c_87 => ?_) (fun c_87 => ?_)
                  · exact absurd c_87 (by rw [hk]; decide)
                  refine lv_aload_n hx hb dX5_feed_78 rfl (lv_at hl 1 rfl) ?_
                  refine va_get (D := G.1) (ci := 5) (v := .ref rd) (C := RX5) (T := TX5) (N := 8) hx hb hts hiX5 hown hK hP 0 rfl rfl 1 (by decide) kf21 (fun _ h9 => h9) rfl dX5_feed_79 ?_
                  refine lv_iload hx hb dX5_feed_82 (lv_at hl 0 rfl) ?_
                  refine lv_if_ne (tgt := 91) hx hb dX5_feed_84 (by decide) (fun c_88 => ?_) (fun c_88 => ?_)
                  · exact absurd (by decide) c_88
                  refine lv_iload_n hx hb dX5_feed_87 rfl (lv_at hl 3 rfl) ?_
                  refine lv_goto (tgt := 125) hx hb dX5_feed_88 (by decide) ?_
                  have hPc : va_P G.1 vwCl [(rd, .inr (1, [.ref tt, .ref b0, .int 40, .int 0, .int 40, .int 30, .int (nI 0)])), (b0, .inl (G.2.1, 160, .inl (gPf tB 40)))] H := hP.sub [1, 2] rfl
                  have hDc : va_D A [(rd, .inr (1, [.ref tt, .ref b0, .int 40, .int 0, .int 40, .int 30, .int (nI 0)])), (b0, .inl (G.2.1, 160, .inl (gPf tB 40)))] := hD.sub [1, 2] (by decide) rfl
                  have hFc := va_free (wc := [(rd, .inr (1, [.ref tt, .ref b0, .int 40, .int 0, .int 40, .int 30, .int (nI 0)])), (b0, .inl (G.2.1, 160, .inl (gPf tB 40)))]) hD hS hA [1, 2] rfl
                  refine va_callv (va_runV (As := [.int v1]) (rest := []) ⟨hx, hb, hml, hown, hts⟩ (c_X1_add l G rd tt b0 (gPf tB 40) 40 0 40 30 0 v1 H.size (by decide)) (cwV 1 hts gX5_feed_X1_add rfl rfl rfl (by decide +kernel) ⟨Nat.le_of_ble_eq_true rfl, Nat.le_of_ble_eq_true rfl⟩) ⟨gPre_blind, va_recv hK hPc (ci := 1) (q0 := 0) rfl rfl, fun U hU hW => gPre_of hU hW hK hPc hDc⟩ rfl rfl hl.1 rfl (lv_room (Nat.le_of_ble_eq_true rfl)) dX5_feed_125 ⟨Nat.le_of_ble_eq_true rfl, Nat.le_of_ble_eq_true rfl⟩) hS (fun q _ h => hFc q h) hFc (fun u t H locs ht hvm w_90 hB hz1 hk1 hS => ?_)
                  obtain ⟨hP1, hK1, hD1⟩ := hB
                  rw [ht] at hP1
                  have hP1 : va_P G.1 vwCl [(rd, .inr (1, [.ref tt, .ref b0, .int 40, .int 0, .int 40, .int 30, .int 1])), (b0, .inl (G.2.1, 160, .inl (upd (gPf tB 40) 0 v1)))] H := hP1
                  have hD1 : va_D (va_A [(rd, .inr (1, [.ref tt, .ref b0, .int 40, .int 0, .int 40, .int 30, .int (nI 0)])), (b0, .inl (G.2.1, 160, .inl (gPf tB 40)))] _) [(rd, .inr (1, [.ref tt, .ref b0, .int 40, .int 0, .int 40, .int 30, .int 1])), (b0, .inl (G.2.1, 160, .inl (upd (gPf tB 40) 0 v1)))] := hD1
                  obtain ⟨hP, hD⟩ := va_join (wr := [(h0, .inr (5, [.ref tt, .ref rd, .ref nw, .ref th, .ref kp, .ref sh, .ref tu, .int 0]))]) (w1 := [(rd, .inr (1, [.ref tt, .ref b0, .int 40, .int 0, .int 40, .int 30, .int 1])), (b0, .inl (G.2.1, 160, .inl (upd (gPf tB 40) 0 v1)))]) hP hD [1, 2] [0] rfl rfl (by decide) (by decide) hk1 hFc hP1 hD1
                  have hP : va_P G.1 vwCl [(h0, .inr (5, [.ref tt, .ref rd, .ref nw, .ref th, .ref kp, .ref sh, .ref tu, .int 0])), (rd, .inr (1, [.ref tt, .ref b0, .int 40, .int 0, .int 40, .int 30, .int 1])), (b0, .inl (G.2.1, 160, .inl (upd (gPf tB 40) 0 v1)))] H := hP
                  have hD : va_D A [(h0, .inr (5, [.ref tt, .ref rd, .ref nw, .ref th, .ref kp, .ref sh, .ref tu, .int 0])), (rd, .inr (1, [.ref tt, .ref b0, .int 40, .int 0, .int 40, .int 30, .int 1])), (b0, .inl (G.2.1, 160, .inl (upd (gPf tB 40) 0 v1)))] := hD
                  refine lv_iinc (v := 1) (lv' := [(7, .int 1), (0, .ref h0), (1, .int v0), (2, .int v1), (3, .int v2), (4, .int v3), (5, .int v4), (6, .int v5)]) hx hb dX5_feed_128 hl (k := 0) rfl (by decide) (by decide) rfl (fun ls hl => ?_)
                  refine lv_goto (tgt := 72) hx hb dX5_feed_131 (by decide) ?_
                  refine lv_iload hx hb dX5_feed_72 (lv_at hl 0 rfl) ?_
                  refine lv_iload_n hx hb dX5_feed_74 rfl (lv_at hl 2 rfl) ?_
                  refine lv_icmp_ge (tgt := 134) hx hb dX5_feed_75 (by decide) (fun c_91 => ?_) (fun c_91 => ?_)
                  · exact absurd c_91 (by rw [hk]; decide)
                  refine lv_aload_n hx hb dX5_feed_78 rfl (lv_at hl 1 rfl) ?_
                  refine va_get (D := G.1) (ci := 5) (v := .ref rd) (C := RX5) (T := TX5) (N := 8) hx hb hts hiX5 hown hK hP 0 rfl rfl 1 (by decide) kf21 (fun _ h9 => h9) rfl dX5_feed_79 ?_
                  refine lv_iload hx hb dX5_feed_82 (lv_at hl 0 rfl) ?_
                  refine lv_if_ne (tgt := 91) hx hb dX5_feed_84 (by decide) (fun c_92 => ?_) (fun c_92 => ?_)
                  rotate_left
                  · exact absurd c_92 (by decide)
                  refine lv_iload hx hb dX5_feed_91 (lv_at hl 0 rfl) ?_
                  refine lv_iconst (v := 1) hx hb dX5_feed_93 (by decide) ?_
                  refine lv_icmp_ne (tgt := 101) hx hb dX5_feed_94 (by decide) (fun c_93 => ?_) (fun c_93 => ?_)
                  · exact absurd (by decide) c_93
                  refine lv_iload_n hx hb dX5_feed_97 rfl (lv_at hl 4 rfl) ?_
                  refine lv_goto (tgt := 125) hx hb dX5_feed_98 (by decide) ?_
                  have hPc : va_P G.1 vwCl [(rd, .inr (1, [.ref tt, .ref b0, .int 40, .int 0, .int 40, .int 30, .int (nI 1)])), (b0, .inl (G.2.1, 160, .inl (upd (gPf tB 40) 0 v1)))] H := hP.sub [1, 2] rfl
                  have hDc : va_D A [(rd, .inr (1, [.ref tt, .ref b0, .int 40, .int 0, .int 40, .int 30, .int (nI 1)])), (b0, .inl (G.2.1, 160, .inl (upd (gPf tB 40) 0 v1)))] := hD.sub [1, 2] (by decide) rfl
                  have hFc := va_free (wc := [(rd, .inr (1, [.ref tt, .ref b0, .int 40, .int 0, .int 40, .int 30, .int (nI 1)])), (b0, .inl (G.2.1, 160, .inl (upd (gPf tB 40) 0 v1)))]) hD hS hA [1, 2] rfl
                  refine va_callv (va_runV (As := [.int v2]) (rest := []) ⟨hx, hb, hml, hown, hts⟩ (c_X1_add l G rd tt b0 (upd (gPf tB 40) 0 v1) 40 0 40 30 1 v2 H.size (by decide)) (cwV 1 hts gX5_feed_X1_add rfl rfl rfl (by decide +kernel) ⟨Nat.le_of_ble_eq_true rfl, Nat.le_of_ble_eq_true rfl⟩) ⟨gPre_blind, va_recv hK hPc (ci := 1) (q0 := 0) rfl rfl, fun U hU hW => gPre_of hU hW hK hPc hDc⟩ rfl rfl hl.1 rfl (lv_room (Nat.le_of_ble_eq_true rfl)) dX5_feed_125 ⟨Nat.le_of_ble_eq_true rfl, Nat.le_of_ble_eq_true rfl⟩) hS (fun q _ h => hFc q h) hFc (fun u t H locs ht hvm w_95 hB hz1 hk1 hS => ?_)
                  obtain ⟨hP1, hK1, hD1⟩ := hB
                  rw [ht] at hP1
                  have hP1 : va_P G.1 vwCl [(rd, .inr (1, [.ref tt, .ref b0, .int 40, .int 0, .int 40, .int 30, .int 2])), (b0, .inl (G.2.1, 160, .inl (upd (upd (gPf tB 40) 0 v1) 1 v2)))] H := hP1
                  have hD1 : va_D (va_A [(rd, .inr (1, [.ref tt, .ref b0, .int 40, .int 0, .int 40, .int 30, .int (nI 1)])), (b0, .inl (G.2.1, 160, .inl (upd (gPf tB 40) 0 v1)))] _) [(rd, .inr (1, [.ref tt, .ref b0, .int 40, .int 0, .int 40, .int 30, .int 2])), (b0, .inl (G.2.1, 160, .inl (upd (upd (gPf tB 40) 0 v1) 1 v2)))] := hD1
                  obtain ⟨hP, hD⟩ := va_join (wr := [(h0, .inr (5, [.ref tt, .ref rd, .ref nw, .ref th, .ref kp, .ref sh, .ref tu, .int 0]))]) (w1 := [(rd, .inr (1, [.ref tt, .ref b0, .int 40, .int 0, .int 40, .int 30, .int 2])), (b0, .inl (G.2.1, 160, .inl (upd (upd (gPf tB 40) 0 v1) 1 v2)))]) hP hD [1, 2] [0] rfl rfl (by decide) (by decide) hk1 hFc hP1 hD1
                  have hP : va_P G.1 vwCl [(h0, .inr (5, [.ref tt, .ref rd, .ref nw, .ref th, .ref kp, .ref sh, .ref tu, .int 0])), (rd, .inr (1, [.ref tt, .ref b0, .int 40, .int 0, .int 40, .int 30, .int 2])), (b0, .inl (G.2.1, 160, .inl (upd (upd (gPf tB 40) 0 v1) 1 v2)))] H := hP
                  have hD : va_D A [(h0, .inr (5, [.ref tt, .ref rd, .ref nw, .ref th, .ref kp, .ref sh, .ref tu, .int 0])), (rd, .inr (1, [.ref tt, .ref b0, .int 40, .int 0, .int 40, .int 30, .int 2])), (b0, .inl (G.2.1, 160, .inl (upd (upd (gPf tB 40) 0 v1) 1 v2)))] := hD
                  refine lv_iinc (v := 2) (lv' := [(7, .int 2), (0, .ref h0), (1, .int v0), (2, .int v1), (3, .int v2), (4, .int v3), (5, .int v4), (6, .int v5)]) hx hb dX5_feed_128 hl (k := 0) rfl (by decide) (by decide) rfl (fun ls hl => ?_)
                  refine lv_goto (tgt := 72) hx hb dX5_feed_131 (by decide) ?_
                  refine lv_iload hx hb dX5_feed_72 (lv_at hl 0 rfl) ?_
                  refine lv_iload_n hx hb dX5_feed_74 rfl (lv_at hl 2 rfl) ?_
                  refine lv_icmp_ge (tgt := 134) hx hb dX5_feed_75 (by decide) (fun c_96 => ?_) (fun c_96 => ?_)
                  · exact absurd c_96 (by rw [hk]; decide)
                  refine lv_aload_n hx hb dX5_feed_78 rfl (lv_at hl 1 rfl) ?_
                  refine va_get (D := G.1) (ci := 5) (v := .ref rd) (C := RX5) (T := TX5) (N := 8) hx hb hts hiX5 hown hK hP 0 rfl rfl 1 (by decide) kf21 (fun _ h9 => h9) rfl dX5_feed_79 ?_
                  refine lv_iload hx hb dX5_feed_82 (lv_at hl 0 rfl) ?_
                  refine lv_if_ne (tgt := 91) hx hb dX5_feed_84 (by decide) (fun c_97 => ?_) (fun c_97 => ?_)
                  rotate_left
                  · exact absurd c_97 (by decide)
                  refine lv_iload hx hb dX5_feed_91 (lv_at hl 0 rfl) ?_
                  refine lv_iconst (v := 1) hx hb dX5_feed_93 (by decide) ?_
                  refine lv_icmp_ne (tgt := 101) hx hb dX5_feed_94 (by decide) (fun c_98 => ?_) (fun c_98 => ?_)
                  rotate_left
                  · exact absurd c_98 (by decide)
                  refine lv_iload hx hb dX5_feed_101 (lv_at hl 0 rfl) ?_
                  refine lv_iconst (v := 2) hx hb dX5_feed_103 (by decide) ?_
                  refine lv_icmp_ne (tgt := 112) hx hb dX5_feed_104 (by decide) (fun c_99 => ?_) (fun c_99 => ?_)
                  · exact absurd (by decide) c_99
                  refine lv_iload hx hb dX5_feed_107 (lv_at hl 5 rfl) ?_
                  refine lv_goto (tgt := 125) hx hb dX5_feed_109 (by decide) ?_
                  have hPc : va_P G.1 vwCl [(rd, .inr (1, [.ref tt, .ref b0, .int 40, .int 0, .int 40, .int 30, .int (nI 2)])), (b0, .inl (G.2.1, 160, .inl (upd (upd (gPf tB 40) 0 v1) 1 v2)))] H := hP.sub [1, 2] rfl
                  have hDc : va_D A [(rd, .inr (1, [.ref tt, .ref b0, .int 40, .int 0, .int 40, .int 30, .int (nI 2)])), (b0, .inl (G.2.1, 160, .inl (upd (upd (gPf tB 40) 0 v1) 1 v2)))] := hD.sub [1, 2] (by decide) rfl
                  have hFc := va_free (wc := [(rd, .inr (1, [.ref tt, .ref b0, .int 40, .int 0, .int 40, .int 30, .int (nI 2)])), (b0, .inl (G.2.1, 160, .inl (upd (upd (gPf tB 40) 0 v1) 1 v2)))]) hD hS hA [1, 2] rfl
                  refine va_callv (va_runV (As := [.int v3]) (rest := []) ⟨hx, hb, hml, hown, hts⟩ (c_X1_add l G rd tt b0 (upd (upd (gPf tB 40) 0 v1) 1 v2) 40 0 40 30 2 v3 H.size (by decide)) (cwV 1 hts gX5_feed_X1_add rfl rfl rfl (by decide +kernel) ⟨Nat.le_of_ble_eq_true rfl, Nat.le_of_ble_eq_true rfl⟩) ⟨gPre_blind, va_recv hK hPc (ci := 1) (q0 := 0) rfl rfl, fun U hU hW => gPre_of hU hW hK hPc hDc⟩ rfl rfl hl.1 rfl (lv_room (Nat.le_of_ble_eq_true rfl)) dX5_feed_125 ⟨Nat.le_of_ble_eq_true rfl, Nat.le_of_ble_eq_true rfl⟩) hS (fun q _ h => hFc q h) hFc (fun u t H locs ht hvm w_101 hB hz1 hk1 hS => ?_)
                  obtain ⟨hP1, hK1, hD1⟩ := hB
                  rw [ht] at hP1
                  have hP1 : va_P G.1 vwCl [(rd, .inr (1, [.ref tt, .ref b0, .int 40, .int 0, .int 40, .int 30, .int 3])), (b0, .inl (G.2.1, 160, .inl (upd (upd (upd (gPf tB 40) 0 v1) 1 v2) 2 v3)))] H := hP1
                  have hD1 : va_D (va_A [(rd, .inr (1, [.ref tt, .ref b0, .int 40, .int 0, .int 40, .int 30, .int (nI 2)])), (b0, .inl (G.2.1, 160, .inl (upd (upd (gPf tB 40) 0 v1) 1 v2)))] _) [(rd, .inr (1, [.ref tt, .ref b0, .int 40, .int 0, .int 40, .int 30, .int 3])), (b0, .inl (G.2.1, 160, .inl (upd (upd (upd (gPf tB 40) 0 v1) 1 v2) 2 v3)))] := hD1
                  obtain ⟨hP, hD⟩ := va_join (wr := [(h0, .inr (5, [.ref tt, .ref rd, .ref nw, .ref th, .ref kp, .ref sh, .ref tu, .int 0]))]) (w1 := [(rd, .inr (1, [.ref tt, .ref b0, .int 40, .int 0, .int 40, .int 30, .int 3])), (b0, .inl (G.2.1, 160, .inl (upd (upd (upd (gPf tB 40) 0 v1) 1 v2) 2 v3)))]) hP hD [1, 2] [0] rfl rfl (by decide) (by decide) hk1 hFc hP1 hD1
                  have hP : va_P G.1 vwCl [(h0, .inr (5, [.ref tt, .ref rd, .ref nw, .ref th, .ref kp, .ref sh, .ref tu, .int 0])), (rd, .inr (1, [.ref tt, .ref b0, .int 40, .int 0, .int 40, .int 30, .int 3])), (b0, .inl (G.2.1, 160, .inl (upd (upd (upd (gPf tB 40) 0 v1) 1 v2) 2 v3)))] H := hP
                  have hD : va_D A [(h0, .inr (5, [.ref tt, .ref rd, .ref nw, .ref th, .ref kp, .ref sh, .ref tu, .int 0])), (rd, .inr (1, [.ref tt, .ref b0, .int 40, .int 0, .int 40, .int 30, .int 3])), (b0, .inl (G.2.1, 160, .inl (upd (upd (upd (gPf tB 40) 0 v1) 1 v2) 2 v3)))] := hD
                  refine lv_iinc (v := 3) (lv' := [(7, .int 3), (0, .ref h0), (1, .int v0), (2, .int v1), (3, .int v2), (4, .int v3), (5, .int v4), (6, .int v5)]) hx hb dX5_feed_128 hl (k := 0) rfl (by decide) (by decide) rfl (fun ls hl => ?_)
                  refine lv_goto (tgt := 72) hx hb dX5_feed_131 (by decide) ?_
                  refine lv_iload hx hb dX5_feed_72 (lv_at hl 0 rfl) ?_
                  refine lv_iload_n hx hb dX5_feed_74 rfl (lv_at hl 2 rfl) ?_
                  refine lv_icmp_ge (tgt := 134) hx hb dX5_feed_75 (by decide) (fun c_102 => ?_) (fun c_102 => ?_)
                  · exact absurd c_102 (by rw [hk]; decide)
                  refine lv_aload_n hx hb dX5_feed_78 rfl (lv_at hl 1 rfl) ?_
                  refine va_get (D := G.1) (ci := 5) (v := .ref rd) (C := RX5) (T := TX5) (N := 8) hx hb hts hiX5 hown hK hP 0 rfl rfl 1 (by decide) kf21 (fun _ h9 => h9) rfl dX5_feed_79 ?_
                  refine lv_iload hx hb dX5_feed_82 (lv_at hl 0 rfl) ?_
                  refine lv_if_ne (tgt := 91) hx hb dX5_feed_84 (by decide) (fun c_103 => ?_) (fun c_103 => ?_)
                  rotate_left
                  · exact absurd c_103 (by decide)
                  refine lv_iload hx hb dX5_feed_91 (lv_at hl 0 rfl) ?_
                  refine lv_iconst (v := 1) hx hb dX5_feed_93 (by decide) ?_
                  refine lv_icmp_ne (tgt := 101) hx hb dX5_feed_94 (by decide) (fun c_104 => ?_) (fun c_104 => ?_)
                  rotate_left
                  · exact absurd c_104 (by decide)
                  refine lv_iload hx hb dX5_feed_101 (lv_at hl 0 rfl) ?_
                  refine lv_iconst (v := 2) hx hb dX5_feed_103 (by decide) ?_
                  refine lv_icmp_ne (tgt := 112) hx hb dX5_feed_104 (by decide) (fun c_105 => ?_) (fun c_105 => ?_)
                  rotate_left
                  · exact absurd c_105 (by decide)
                  refine lv_iload hx hb dX5_feed_112 (lv_at hl 0 rfl) ?_
                  refine lv_iconst (v := 3) hx hb dX5_feed_114 (by decide) ?_
                  refine lv_icmp_ne (tgt := 123) hx hb dX5_feed_115 (by decide) (fun c_106 => ?_) (fun c_106 => ?_)
                  · exact absurd (by decide) c_106
                  refine lv_iload hx hb dX5_feed_118 (lv_at hl 6 rfl) ?_
                  refine lv_goto (tgt := 125) hx hb dX5_feed_120 (by decide) ?_
                  have hPc : va_P G.1 vwCl [(rd, .inr (1, [.ref tt, .ref b0, .int 40, .int 0, .int 40, .int 30, .int (nI 3)])), (b0, .inl (G.2.1, 160, .inl (upd (upd (upd (gPf tB 40) 0 v1) 1 v2) 2 v3)))] H := hP.sub [1, 2] rfl
                  have hDc : va_D A [(rd, .inr (1, [.ref tt, .ref b0, .int 40, .int 0, .int 40, .int 30, .int (nI 3)])), (b0, .inl (G.2.1, 160, .inl (upd (upd (upd (gPf tB 40) 0 v1) 1 v2) 2 v3)))] := hD.sub [1, 2] (by decide) rfl
                  have hFc := va_free (wc := [(rd, .inr (1, [.ref tt, .ref b0, .int 40, .int 0, .int 40, .int 30, .int (nI 3)])), (b0, .inl (G.2.1, 160, .inl (upd (upd (upd (gPf tB 40) 0 v1) 1 v2) 2 v3)))]) hD hS hA [1, 2] rfl
                  refine va_callv (va_runV (As := [.int v4]) (rest := []) ⟨hx, hb, hml, hown, hts⟩ (c_X1_add l G rd tt b0 (upd (upd (upd (gPf tB 40) 0 v1) 1 v2) 2 v3) 40 0 40 30 3 v4 H.size (by decide)) (cwV 1 hts gX5_feed_X1_add rfl rfl rfl (by decide +kernel) ⟨Nat.le_of_ble_eq_true rfl, Nat.le_of_ble_eq_true rfl⟩) ⟨gPre_blind, va_recv hK hPc (ci := 1) (q0 := 0) rfl rfl, fun U hU hW => gPre_of hU hW hK hPc hDc⟩ rfl rfl hl.1 rfl (lv_room (Nat.le_of_ble_eq_true rfl)) dX5_feed_125 ⟨Nat.le_of_ble_eq_true rfl, Nat.le_of_ble_eq_true rfl⟩) hS (fun q _ h => hFc q h) hFc (fun u t H locs ht hvm w_108 hB hz1 hk1 hS => ?_)
                  obtain ⟨hP1, hK1, hD1⟩ := hB
                  rw [ht] at hP1
                  have hP1 : va_P G.1 vwCl [(rd, .inr (1, [.ref tt, .ref b0, .int 40, .int 0, .int 40, .int 30, .int 4])), (b0, .inl (G.2.1, 160, .inl (upd (upd (upd (upd (gPf tB 40) 0 v1) 1 v2) 2 v3) 3 v4)))] H := hP1
                  have hD1 : va_D (va_A [(rd, .inr (1, [.ref tt, .ref b0, .int 40, .int 0, .int 40, .int 30, .int (nI 3)])), (b0, .inl (G.2.1, 160, .inl (upd (upd (upd (gPf tB 40) 0 v1) 1 v2) 2 v3)))] _) [(rd, .inr (1, [.ref tt, .ref b0, .int 40, .int 0, .int 40, .int 30, .int 4])), (b0, .inl (G.2.1, 160, .inl (upd (upd (upd (upd (gPf tB 40) 0 v1) 1 v2) 2 v3) 3 v4)))] := hD1
                  obtain ⟨hP, hD⟩ := va_join (wr := [(h0, .inr (5, [.ref tt, .ref rd, .ref nw, .ref th, .ref kp, .ref sh, .ref tu, .int 0]))]) (w1 := [(rd, .inr (1, [.ref tt, .ref b0, .int 40, .int 0, .int 40, .int 30, .int 4])), (b0, .inl (G.2.1, 160, .inl (upd (upd (upd (upd (gPf tB 40) 0 v1) 1 v2) 2 v3) 3 v4)))]) hP hD [1, 2] [0] rfl rfl (by decide) (by decide) hk1 hFc hP1 hD1
                  have hP : va_P G.1 vwCl [(h0, .inr (5, [.ref tt, .ref rd, .ref nw, .ref th, .ref kp, .ref sh, .ref tu, .int 0])), (rd, .inr (1, [.ref tt, .ref b0, .int 40, .int 0, .int 40, .int 30, .int 4])), (b0, .inl (G.2.1, 160, .inl (upd (upd (upd (upd (gPf tB 40) 0 v1) 1 v2) 2 v3) 3 v4)))] H := hP
                  have hD : va_D A [(h0, .inr (5, [.ref tt, .ref rd, .ref nw, .ref th, .ref kp, .ref sh, .ref tu, .int 0])), (rd, .inr (1, [.ref tt, .ref b0, .int 40, .int 0, .int 40, .int 30, .int 4])), (b0, .inl (G.2.1, 160, .inl (upd (upd (upd (upd (gPf tB 40) 0 v1) 1 v2) 2 v3) 3 v4)))] := hD
                  refine lv_iinc (v := 4) (lv' := [(7, .int 4), (0, .ref h0), (1, .int v0), (2, .int v1), (3, .int v2), (4, .int v3), (5, .int v4), (6, .int v5)]) hx hb dX5_feed_128 hl (k := 0) rfl (by decide) (by decide) rfl (fun ls hl => ?_)
                  refine lv_goto (tgt := 72) hx hb dX5_feed_131 (by decide) ?_
                  refine lv_iload hx hb dX5_feed_72 (lv_at hl 0 rfl) ?_
                  refine lv_iload_n hx hb dX5_feed_74 rfl (lv_at hl 2 rfl) ?_
                  refine lv_icmp_ge (tgt := 134) hx hb dX5_feed_75 (by decide) (fun c_109 => ?_) (fun c_109 => ?_)
                  · exact absurd c_109 (by rw [hk]; decide)
                  refine lv_aload_n hx hb dX5_feed_78 rfl (lv_at hl 1 rfl) ?_
                  refine va_get (D := G.1) (ci := 5) (v := .ref rd) (C := RX5) (T := TX5) (N := 8) hx hb hts hiX5 hown hK hP 0 rfl rfl 1 (by decide) kf21 (fun _ h9 => h9) rfl dX5_feed_79 ?_
                  refine lv_iload hx hb dX5_feed_82 (lv_at hl 0 rfl) ?_
                  refine lv_if_ne (tgt := 91) hx hb dX5_feed_84 (by decide) (fun c_110 => ?_) (fun c_110 => ?_)
                  rotate_left
                  · exact absurd c_110 (by decide)
                  refine lv_iload hx hb dX5_feed_91 (lv_at hl 0 rfl) ?_
                  refine lv_iconst (v := 1) hx hb dX5_feed_93 (by decide) ?_
                  refine lv_icmp_ne (tgt := 101) hx hb dX5_feed_94 (by decide) (fun c_111 => ?_) (fun c_111 => ?_)
                  rotate_left
                  · exact absurd c_111 (by decide)
                  refine lv_iload hx hb dX5_feed_101 (lv_at hl 0 rfl) ?_
                  refine lv_iconst (v := 2) hx hb dX5_feed_103 (by decide) ?_
                  refine lv_icmp_ne (tgt := 112) hx hb dX5_feed_104 (by decide) (fun c_112 => ?_) (fun c_112 => ?_)
                  rotate_left
                  · exact absurd c_112 (by decide)
                  refine lv_iload hx hb dX5_feed_112 (lv_at hl 0 rfl) ?_
                  refine lv_iconst (v := 3) hx hb dX5_feed_114 (by decide) ?_
                  refine lv_icmp_ne (tgt := 123) hx hb dX5_feed_115 (by decide) (fun c_113 => ?_) (fun c_113 => ?_)
                  rotate_left
                  · exact absurd c_113 (by decide)
                  refine lv_iload hx hb dX5_feed_123 (lv_at hl 7 rfl) ?_
                  have hPc : va_P G.1 vwCl [(rd, .inr (1, [.ref tt, .ref b0, .int 40, .int 0, .int 40, .int 30, .int (nI 4)])), (b0, .inl (G.2.1, 160, .inl (upd (upd (upd (upd (gPf tB 40) 0 v1) 1 v2) 2 v3) 3 v4)))] H := hP.sub [1, 2] rfl
                  have hDc : va_D A [(rd, .inr (1, [.ref tt, .ref b0, .int 40, .int 0, .int 40, .int 30, .int (nI 4)])), (b0, .inl (G.2.1, 160, .inl (upd (upd (upd (upd (gPf tB 40) 0 v1) 1 v2) 2 v3) 3 v4)))] := hD.sub [1, 2] (by decide) rfl
                  have hFc := va_free (wc := [(rd, .inr (1, [.ref tt, .ref b0, .int 40, .int 0, .int 40, .int 30, .int (nI 4)])), (b0, .inl (G.2.1, 160, .inl (upd (upd (upd (upd (gPf tB 40) 0 v1) 1 v2) 2 v3) 3 v4)))]) hD hS hA [1, 2] rfl
                  refine va_callv (va_runV (As := [.int v5]) (rest := []) ⟨hx, hb, hml, hown, hts⟩ (c_X1_add l G rd tt b0 (upd (upd (upd (upd (gPf tB 40) 0 v1) 1 v2) 2 v3) 3 v4) 40 0 40 30 4 v5 H.size (by decide)) (cwV 1 hts gX5_feed_X1_add rfl rfl rfl (by decide +kernel) ⟨Nat.le_of_ble_eq_true rfl, Nat.le_of_ble_eq_true rfl⟩) ⟨gPre_blind, va_recv hK hPc (ci := 1) (q0 := 0) rfl rfl, fun U hU hW => gPre_of hU hW hK hPc hDc⟩ rfl rfl hl.1 rfl (lv_room (Nat.le_of_ble_eq_true rfl)) dX5_feed_125 ⟨Nat.le_of_ble_eq_true rfl, Nat.le_of_ble_eq_true rfl⟩) hS (fun q _ h => hFc q h) hFc (fun u t H locs ht hvm w_115 hB hz1 hk1 hS => ?_)
                  obtain ⟨hP1, hK1, hD1⟩ := hB
                  rw [ht] at hP1
                  have hP1 : va_P G.1 vwCl [(rd, .inr (1, [.ref tt, .ref b0, .int 40, .int 0, .int 40, .int 30, .int 5])), (b0, .inl (G.2.1, 160, .inl (upd (upd (upd (upd (upd (gPf tB 40) 0 v1) 1 v2) 2 v3) 3 v4) 4 v5)))] H := hP1
                  have hD1 : va_D (va_A [(rd, .inr (1, [.ref tt, .ref b0, .int 40, .int 0, .int 40, .int 30, .int (nI 4)])), (b0, .inl (G.2.1, 160, .inl (upd (upd (upd (upd (gPf tB 40) 0 v1) 1 v2) 2 v3) 3 v4)))] _) [(rd, .inr (1, [.ref tt, .ref b0, .int 40, .int 0, .int 40, .int 30, .int 5])), (b0, .inl (G.2.1, 160, .inl (upd (upd (upd (upd (upd (gPf tB 40) 0 v1) 1 v2) 2 v3) 3 v4) 4 v5)))] := hD1
                  obtain ⟨hP, hD⟩ := va_join (wr := [(h0, .inr (5, [.ref tt, .ref rd, .ref nw, .ref th, .ref kp, .ref sh, .ref tu, .int 0]))]) (w1 := [(rd, .inr (1, [.ref tt, .ref b0, .int 40, .int 0, .int 40, .int 30, .int 5])), (b0, .inl (G.2.1, 160, .inl (upd (upd (upd (upd (upd (gPf tB 40) 0 v1) 1 v2) 2 v3) 3 v4) 4 v5)))]) hP hD [1, 2] [0] rfl rfl (by decide) (by decide) hk1 hFc hP1 hD1
                  have hP : va_P G.1 vwCl [(h0, .inr (5, [.ref tt, .ref rd, .ref nw, .ref th, .ref kp, .ref sh, .ref tu, .int 0])), (rd, .inr (1, [.ref tt, .ref b0, .int 40, .int 0, .int 40, .int 30, .int 5])), (b0, .inl (G.2.1, 160, .inl (upd (upd (upd (upd (upd (gPf tB 40) 0 v1) 1 v2) 2 v3) 3 v4) 4 v5)))] H := hP
                  have hD : va_D A [(h0, .inr (5, [.ref tt, .ref rd, .ref nw, .ref th, .ref kp, .ref sh, .ref tu, .int 0])), (rd, .inr (1, [.ref tt, .ref b0, .int 40, .int 0, .int 40, .int 30, .int 5])), (b0, .inl (G.2.1, 160, .inl (upd (upd (upd (upd (upd (gPf tB 40) 0 v1) 1 v2) 2 v3) 3 v4) 4 v5)))] := hD
                  refine lv_iinc (v := 5) (lv' := [(7, .int 5), (0, .ref h0), (1, .int v0), (2, .int v1), (3, .int v2), (4, .int v3), (5, .int v4), (6, .int v5)]) hx hb dX5_feed_128 hl (k := 0) rfl (by decide) (by decide) rfl (fun ls hl => ?_)
                  refine lv_goto (tgt := 72) hx hb dX5_feed_131 (by decide) ?_
                  refine lv_iload hx hb dX5_feed_72 (lv_at hl 0 rfl) ?_
                  refine lv_iload_n hx hb dX5_feed_74 rfl (lv_at hl 2 rfl) ?_
                  refine lv_icmp_ge (tgt := 134) hx hb dX5_feed_75 (by decide) (fun c_116 => ?_) (fun c_116 => ?_)
                  rotate_left
                  · exact absurd (by rw [hk]; decide) c_116
                  refine lv_aload_n hx hb dX5_feed_134 rfl (lv_at hl 1 rfl) ?_
                  refine va_get (D := G.1) (ci := 5) (v := .ref rd) (C := RX5) (T := TX5) (N := 8) hx hb hts hiX5 hown hK hP 0 rfl rfl 1 (by decide) kf21 (fun _ h9 => h9) rfl dX5_feed_135 ?_
                  refine va_get (D := G.1) (ci := 1) (v := .int 5) (C := RX1) (T := TX1) (N := 7) hx hb hts hiX1 hown hK hP 1 rfl rfl 6 (by decide) kf84 (fun _ h9 => h9) rfl dX5_feed_138 ?_
                  have hpost : (fun (r : Int32) (u : Unit) => match u with | _ => r = (if (1 ≤ v0 ∧ v0 ≤ 5) ∧ (0 ≤ v1 ∧ v1 ≤ 255) ∧ (0 ≤ v2 ∧ v2 ≤ 255) ∧ (0 ≤ v3 ∧ v3 ≤ 255) ∧ (0 ≤ v4 ∧ v4 ≤ 255) ∧ (0 ≤ v5 ∧ v5 ≤ 255) then v0 else -2)) 5 () := pp_X5_feed_0_11 v0 v1 v2 v3 v4 v5 c_1 c_2 p_6 p_11 p_16 p_21 p_26 hk
                  exact W.iret (v := 5) hx hb hr (fun t ht hW => ⟨⟨5, (), rfl, hpost, trivial⟩, hS.F ht⟩) hS.2.2 dX5_feed_141
              · skip
                have n_27 : ¬ (0 ≤ v5 ∧ v5 ≤ 255) := of_decide_eq_false (bz_eq w_24 c_25)
                refine lv_bipush (v := -2) hx hb dX5_feed_48 (by decide) ?_
                have hpost : (fun (r : Int32) (u : Unit) => match u with | _ => r = (if (1 ≤ v0 ∧ v0 ≤ 5) ∧ (0 ≤ v1 ∧ v1 ≤ 255) ∧ (0 ≤ v2 ∧ v2 ≤ 255) ∧ (0 ≤ v3 ∧ v3 ≤ 255) ∧ (0 ≤ v4 ∧ v4 ≤ 255) ∧ (0 ≤ v5 ∧ v5 ≤ 255) then v0 else -2)) (-2) () := pp_X5_feed_0_12 v0 v1 v2 v3 v4 v5 c_1 c_2 p_6 p_11 p_16 p_21 n_27
                exact W.iret (v := (-2)) hx hb hr (fun t ht hW => ⟨⟨(-2), (), rfl, hpost, trivial⟩, hS.F ht⟩) hS.2.2 dX5_feed_50
abbrev q_X5_text_0 (G : gG) (E : gS) (h0 tt rd nw th kp sh tu b0 co en sk : Nat) (A : Nat → Prop) : Array Value → State → Outcome → State → Prop := va_Qi (fun (r : Int32) (u : Unit) => match u with | _ => r = -100) (fun (u : Unit) t => match u with | _ => True) A
set_option maxHeartbeats 4000000 in
set_option maxRecDepth 100000 in
theorem c_X5_text_0 (l : Launch) (G : gG) (E : gS) (h0 tt rd nw th kp sh tu b0 co en sk : Nat) (sz : Nat) : Met l yX5_text wsX5_text ({ frames := 9, cells := 0, slots := 0, locals := 190 }) (gPreE G E [.ref h0] [(h0, .inr (5, [.ref tt, .ref rd, .ref nw, .ref th, .ref kp, .ref sh, .ref tu, .int 0])), (rd, .inr (1, [.ref tt, .ref b0, .int 40, .int 0, .int 40, .int 30, .int 0])), (b0, .inl (G.2.1, 160, .inl (gPf tB 40))), (tt, .inr (3, [.ref co, .ref en, .ref sk, .int 5, .int 1]))] sz) (q_X5_text_0 G E h0 tt rd nw th kp sh tu b0 co en sk (va_A [(h0, .inr (5, [.ref tt, .ref rd, .ref nw, .ref th, .ref kp, .ref sh, .ref tu, .int 0])), (rd, .inr (1, [.ref tt, .ref b0, .int 40, .int 0, .int 40, .int 30, .int 0])), (b0, .inl (G.2.1, 160, .inl (gPf tB 40))), (tt, .inr (3, [.ref co, .ref en, .ref sk, .int 5, .int 1]))] sz)) 0 0 (va_A [(h0, .inr (5, [.ref tt, .ref rd, .ref nw, .ref th, .ref kp, .ref sh, .ref tu, .int 0])), (rd, .inr (1, [.ref tt, .ref b0, .int 40, .int 0, .int 40, .int 30, .int 0])), (b0, .inl (G.2.1, 160, .inl (gPf tB 40))), (tt, .inr (3, [.ref co, .ref en, .ref sk, .int 5, .int 1]))] sz) := by
  refine Met.ofW (cc := cX5_text) (maxL := 1) (ret := (some .int)) (by decide) rfl ?_
  intro p e s m args below meth c s₁ B hml hv
  obtain ⟨rfl, hsz, hP, hK, hD0, hE⟩ := hv
  have hx := B.exec
  have hb := B.bytes
  have hr := B.returns
  have hts := atoms_spec (ws := wsX5_text) B.pre
  have hown : s.vm.findClass RX5 = some m.cls := findClass_of_methodNamed B.named
  have hlocks := B.notSynchronized
  subst hsz
  have hD := hD0.self (sz := s.heap.size)
  generalize hAe : va_A [(h0, .inr (5, [.ref tt, .ref rd, .ref nw, .ref th, .ref kp, .ref sh, .ref tu, .int 0])), (rd, .inr (1, [.ref tt, .ref b0, .int 40, .int 0, .int 40, .int 30, .int 0])), (b0, .inl (G.2.1, 160, .inl (gPf tB 40))), (tt, .inr (3, [.ref co, .ref en, .ref sk, .int 5, .int 1]))] s.heap.size = A at hD hE ⊢
  have hA : ∀ q : Nat, s.heap.size ≤ q → A q := fun q h => by rw [← hAe]; exact Or.inr h
  have hS : va_S A s.heap s.heap [] := va_S.rf
  have hP : va_P G.1 vwCl [(h0, .inr (5, [.ref tt, .ref rd, .ref nw, .ref th, .ref kp, .ref sh, .ref tu, .int 0])), (rd, .inr (1, [.ref tt, .ref b0, .int 40, .int 0, .int 40, .int 30, .int 0])), (b0, .inl (G.2.1, 160, .inl (gPf tB 40))), (tt, .inr (3, [.ref co, .ref en, .ref sk, .int 5, .int 1]))] s.heap := hP
  have hD : va_D A [(h0, .inr (5, [.ref tt, .ref rd, .ref nw, .ref th, .ref kp, .ref sh, .ref tu, .int 0])), (rd, .inr (1, [.ref tt, .ref b0, .int 40, .int 0, .int 40, .int 30, .int 0])), (b0, .inl (G.2.1, 160, .inl (gPf tB 40))), (tt, .inr (3, [.ref co, .ref en, .ref sk, .int 5, .int 1]))] := hD
  have hl := lv_entry ([.ref h0]) (n := 1) (Nat.le_of_ble_eq_true rfl)
  rw [lg_entry_eq]
  generalize (lg_sl ([.ref h0]) ++ List.replicate (1 - (lg_sl ([.ref h0])).length) Slot.unset).toArray = ls at hl ⊢
  have hl : lv_has ls 1 [(0, .ref h0)] := hl
  have kf10 := hts (.fieldLink RX5 10 "PebbleInShoe" "texts" "LPebbleInShoe$Texts;") (by decide +kernel)
  have hiX5 := (by decide +kernel : ∀ w ∈ wsX50, w ∈ wsX5_text)
  have kf78 := hts (.fieldLink RX5 78 "PebbleInShoe$Texts" "number" "I") (by decide +kernel)
  have hiX3 := (by decide +kernel : ∀ w ∈ wsX30, w ∈ wsX5_text)
  have kf21 := hts (.fieldLink RX5 21 "PebbleInShoe" "tape" "LPebbleInShoe$Reader;") (by decide +kernel)
  refine lv_aload_n hx hb dX5_text_0 rfl (lv_at hl 0 rfl) ?_
  refine va_get (D := G.1) (ci := 5) (v := .ref tt) (C := RX5) (T := TX5) (N := 8) hx hb hts hiX5 hown hK hP 0 rfl rfl 0 (by decide) kf10 (fun _ h9 => h9) rfl dX5_text_1 ?_
  refine va_get (D := G.1) (ci := 3) (v := .int 1) (C := RX3) (T := TX3) (N := 5) hx hb hts hiX3 hown hK hP 3 rfl rfl 4 (by decide) kf78 (fun _ h9 => h9) rfl dX5_text_4 ?_
  refine lv_bipush (v := 6) hx hb dX5_text_7 (by decide) ?_
  refine lv_icmp_lt (tgt := 15) hx hb dX5_text_9 (by decide) (fun c_1 => ?_) (fun c_1 => ?_)
  rotate_left
  · exact absurd (by decide) c_1
  refine lv_aload_n hx hb dX5_text_15 rfl (lv_at hl 0 rfl) ?_
  refine va_get (D := G.1) (ci := 5) (v := .ref rd) (C := RX5) (T := TX5) (N := 8) hx hb hts hiX5 hown hK hP 0 rfl rfl 1 (by decide) kf21 (fun _ h9 => h9) rfl dX5_text_16 ?_
  have hPc : va_P G.1 vwCl [(rd, .inr (1, [.ref tt, .ref b0, .int 40, .int 0, .int 40, .int 30, .int 0])), (b0, .inl (G.2.1, 160, .inl (gPf tB 40))), (tt, .inr (3, [.ref co, .ref en, .ref sk, .int 5, .int 1]))] s.heap := hP.sub [1, 2, 3] rfl
  have hDc : va_D A [(rd, .inr (1, [.ref tt, .ref b0, .int 40, .int 0, .int 40, .int 30, .int 0])), (b0, .inl (G.2.1, 160, .inl (gPf tB 40))), (tt, .inr (3, [.ref co, .ref en, .ref sk, .int 5, .int 1]))] := hD.sub [1, 2, 3] (by decide) rfl
  have hFc := va_free (wc := [(rd, .inr (1, [.ref tt, .ref b0, .int 40, .int 0, .int 40, .int 30, .int 0])), (b0, .inl (G.2.1, 160, .inl (gPf tB 40))), (tt, .inr (3, [.ref co, .ref en, .ref sk, .int 5, .int 1]))]) hD hS hA [1, 2, 3] rfl
  refine va_calli (va_runV (As := []) (rest := []) ⟨hx, hb, hml, hown, hts⟩ (c_X1_read_e l G E rd tt b0 co en sk (gPf tB 40) 40 0 40 30 5 1 s.heap.size) (cwV 0 hts gX5_text_X1_read rfl rfl rfl (by decide +kernel) ⟨Nat.le_of_ble_eq_true rfl, Nat.le_of_ble_eq_true rfl⟩) ⟨gPreE_blind, va_recv hK hPc (ci := 1) (q0 := 0) rfl rfl, fun U hU hW => gPreE_of hU hW hK hPc hDc hE hS hFc⟩ rfl rfl hl.1 rfl (lv_room (Nat.le_of_ble_eq_true rfl)) dX5_text_19 ⟨Nat.le_of_ble_eq_true rfl, Nat.le_of_ble_eq_true rfl⟩) hS (fun q _ h => hFc q h) hFc (fun r_2 u t H locs ht hvm w_3 hB hz1 hk1 hS => ?_)
  obtain ⟨hP1, hK1, hD1⟩ := hB
  rw [ht] at hP1
  have hP1 : va_P G.1 vwCl [(rd, .inr (1, [.ref tt, .ref b0, .int 0, .int 0, .int 0, .int 30, .int 0])), (b0, .inl (G.2.1, 160, .inl (gPf tB 40))), (tt, .inr (3, [.ref co, .ref en, .ref sk, .int 0, .int 1]))] H := hP1
  have hD1 : va_D (va_A [(rd, .inr (1, [.ref tt, .ref b0, .int 40, .int 0, .int 40, .int 30, .int 0])), (b0, .inl (G.2.1, 160, .inl (gPf tB 40))), (tt, .inr (3, [.ref co, .ref en, .ref sk, .int 5, .int 1]))] s.heap.size) [(rd, .inr (1, [.ref tt, .ref b0, .int 0, .int 0, .int 0, .int 30, .int 0])), (b0, .inl (G.2.1, 160, .inl (gPf tB 40))), (tt, .inr (3, [.ref co, .ref en, .ref sk, .int 0, .int 1]))] := hD1
  have w_3 : r_2 = -100 := w_3
  obtain ⟨hP, hD⟩ := va_join (wr := [(h0, .inr (5, [.ref tt, .ref rd, .ref nw, .ref th, .ref kp, .ref sh, .ref tu, .int 0]))]) (w1 := [(rd, .inr (1, [.ref tt, .ref b0, .int 0, .int 0, .int 0, .int 30, .int 0])), (b0, .inl (G.2.1, 160, .inl (gPf tB 40))), (tt, .inr (3, [.ref co, .ref en, .ref sk, .int 0, .int 1]))]) hP hD [1, 2, 3] [0] rfl rfl (by decide) (by decide) hk1 hFc hP1 hD1
  have hP : va_P G.1 vwCl [(h0, .inr (5, [.ref tt, .ref rd, .ref nw, .ref th, .ref kp, .ref sh, .ref tu, .int 0])), (rd, .inr (1, [.ref tt, .ref b0, .int 0, .int 0, .int 0, .int 30, .int 0])), (b0, .inl (G.2.1, 160, .inl (gPf tB 40))), (tt, .inr (3, [.ref co, .ref en, .ref sk, .int 0, .int 1]))] H := hP
  have hD : va_D A [(h0, .inr (5, [.ref tt, .ref rd, .ref nw, .ref th, .ref kp, .ref sh, .ref tu, .int 0])), (rd, .inr (1, [.ref tt, .ref b0, .int 0, .int 0, .int 0, .int 30, .int 0])), (b0, .inl (G.2.1, 160, .inl (gPf tB 40))), (tt, .inr (3, [.ref co, .ref en, .ref sk, .int 0, .int 1]))] := hD
  have w_3 : r_2 = -100 := w_3
  subst w_3
  have hpost : (fun (r : Int32) (u : Unit) => match u with | _ => r = -100) (-100) () := rfl
  exact W.iret (v := (-100)) hx hb hr (fun t ht hW => ⟨⟨(-100), (), rfl, hpost, trivial⟩, hS.F ht⟩) hS.2.2 dX5_text_22
theorem pp_X5_force_0_1 (v0 : Int32) (c_1 : v0 < 0) : ((-2) : Int32) = (if 0 ≤ v0 ∧ v0 ≤ 0 then 0 else -2) := by
  first
    | rfl
    | exact bz_pos (by (first | omega | (simp only [Int32.lt_iff_toInt_lt, Int32.le_iff_toInt_le, ← Int32.toInt_inj, Int32.reduceToInt] at * <;> omega)))
    | exact bz_neg (by (first | omega | (simp only [Int32.lt_iff_toInt_lt, Int32.le_iff_toInt_le, ← Int32.toInt_inj, Int32.reduceToInt] at * <;> omega)))
    | ((repeat' split) <;> first | rfl | assumption | (symm; assumption) | (exfalso; (first | omega | (simp only [Int32.lt_iff_toInt_lt, Int32.le_iff_toInt_le, ← Int32.toInt_inj, Int32.reduceToInt] at * <;> omega))))
theorem pp_X5_force_0_2 (v0 : Int32) (c_1 : ¬ (v0 < 0)) (c_2 : v0 < 1) : (0 : Int32) = (if 0 ≤ v0 ∧ v0 ≤ 0 then 0 else -2) := by
  first
    | rfl
    | exact bz_pos (by (first | omega | (simp only [Int32.lt_iff_toInt_lt, Int32.le_iff_toInt_le, ← Int32.toInt_inj, Int32.reduceToInt] at * <;> omega)))
    | exact bz_neg (by (first | omega | (simp only [Int32.lt_iff_toInt_lt, Int32.le_iff_toInt_le, ← Int32.toInt_inj, Int32.reduceToInt] at * <;> omega)))
    | ((repeat' split) <;> first | rfl | assumption | (symm; assumption) | (exfalso; (first | omega | (simp only [Int32.lt_iff_toInt_lt, Int32.le_iff_toInt_le, ← Int32.toInt_inj, Int32.reduceToInt] at * <;> omega))))
theorem pp_X5_force_0_3 (v0 : Int32) (c_1 : ¬ (v0 < 0)) (c_2 : ¬ (v0 < 1)) : ((-2) : Int32) = (if 0 ≤ v0 ∧ v0 ≤ 0 then 0 else -2) := by
  first
    | rfl
    | exact bz_pos (by (first | omega | (simp only [Int32.lt_iff_toInt_lt, Int32.le_iff_toInt_le, ← Int32.toInt_inj, Int32.reduceToInt] at * <;> omega)))
    | exact bz_neg (by (first | omega | (simp only [Int32.lt_iff_toInt_lt, Int32.le_iff_toInt_le, ← Int32.toInt_inj, Int32.reduceToInt] at * <;> omega)))
    | ((repeat' split) <;> first | rfl | assumption | (symm; assumption) | (exfalso; (first | omega | (simp only [Int32.lt_iff_toInt_lt, Int32.le_iff_toInt_le, ← Int32.toInt_inj, Int32.reduceToInt] at * <;> omega))))
abbrev q_X5_force_0 (G : gG) (h0 tt rd nw th kp sh tu co en sk n1 n2 n3 n4 n5 n6 n7 n8 : Nat) (v0 : Int32) (A : Nat → Prop) : Array Value → State → Outcome → State → Prop := va_Qi (fun (r : Int32) (u : Unit) => match u with | _ => r = (if 0 ≤ v0 ∧ v0 ≤ 0 then 0 else -2)) (fun (u : Unit) t => match u with | _ => True) A
set_option maxHeartbeats 4000000 in
set_option maxRecDepth 100000 in
theorem c_X5_force_0 (l : Launch) (G : gG) (h0 tt rd nw th kp sh tu co en sk n1 n2 n3 n4 n5 n6 n7 n8 : Nat) (v0 : Int32) (sz : Nat) : Met l yX5_force wsX5_force ({ frames := 0, cells := 0, slots := 0, locals := 0 }) (gPre G [.ref h0, .int v0] [(h0, .inr (5, [.ref tt, .ref rd, .ref nw, .ref th, .ref kp, .ref sh, .ref tu, .int 0])), (tt, .inr (3, [.ref co, .ref en, .ref sk, .int 5, .int 1])), (nw, .inr (0, [.ref tt, .ref n1, .ref n2, .ref n3, .ref n4, .ref n5, .ref n6, .ref n7, .ref n8, .int 0, .int 0, .int 0]))] sz) (q_X5_force_0 G h0 tt rd nw th kp sh tu co en sk n1 n2 n3 n4 n5 n6 n7 n8 v0 (va_A [(h0, .inr (5, [.ref tt, .ref rd, .ref nw, .ref th, .ref kp, .ref sh, .ref tu, .int 0])), (tt, .inr (3, [.ref co, .ref en, .ref sk, .int 5, .int 1])), (nw, .inr (0, [.ref tt, .ref n1, .ref n2, .ref n3, .ref n4, .ref n5, .ref n6, .ref n7, .ref n8, .int 0, .int 0, .int 0]))] sz)) 0 0 (va_A [(h0, .inr (5, [.ref tt, .ref rd, .ref nw, .ref th, .ref kp, .ref sh, .ref tu, .int 0])), (tt, .inr (3, [.ref co, .ref en, .ref sk, .int 5, .int 1])), (nw, .inr (0, [.ref tt, .ref n1, .ref n2, .ref n3, .ref n4, .ref n5, .ref n6, .ref n7, .ref n8, .int 0, .int 0, .int 0]))] sz) := by
  refine Met.ofW (cc := cX5_force) (maxL := 3) (ret := (some .int)) (by decide) rfl ?_
  intro p e s m args below meth c s₁ B hml hv
  obtain ⟨rfl, hsz, hP, hK, hD0⟩ := hv
  have hx := B.exec
  have hb := B.bytes
  have hr := B.returns
  have hts := atoms_spec (ws := wsX5_force) B.pre
  have hown : s.vm.findClass RX5 = some m.cls := findClass_of_methodNamed B.named
  have hlocks := B.notSynchronized
  subst hsz
  have hD := hD0.self (sz := s.heap.size)
  generalize hAe : va_A [(h0, .inr (5, [.ref tt, .ref rd, .ref nw, .ref th, .ref kp, .ref sh, .ref tu, .int 0])), (tt, .inr (3, [.ref co, .ref en, .ref sk, .int 5, .int 1])), (nw, .inr (0, [.ref tt, .ref n1, .ref n2, .ref n3, .ref n4, .ref n5, .ref n6, .ref n7, .ref n8, .int 0, .int 0, .int 0]))] s.heap.size = A at hD ⊢
  have hA : ∀ q : Nat, s.heap.size ≤ q → A q := fun q h => by rw [← hAe]; exact Or.inr h
  have hS : va_S A s.heap s.heap [] := va_S.rf
  have hP : va_P G.1 vwCl [(h0, .inr (5, [.ref tt, .ref rd, .ref nw, .ref th, .ref kp, .ref sh, .ref tu, .int 0])), (tt, .inr (3, [.ref co, .ref en, .ref sk, .int 5, .int 1])), (nw, .inr (0, [.ref tt, .ref n1, .ref n2, .ref n3, .ref n4, .ref n5, .ref n6, .ref n7, .ref n8, .int 0, .int 0, .int 0]))] s.heap := hP
  have hD : va_D A [(h0, .inr (5, [.ref tt, .ref rd, .ref nw, .ref th, .ref kp, .ref sh, .ref tu, .int 0])), (tt, .inr (3, [.ref co, .ref en, .ref sk, .int 5, .int 1])), (nw, .inr (0, [.ref tt, .ref n1, .ref n2, .ref n3, .ref n4, .ref n5, .ref n6, .ref n7, .ref n8, .int 0, .int 0, .int 0]))] := hD
  have hl := lv_entry ([.ref h0, .int v0]) (n := 3) (Nat.le_of_ble_eq_true rfl)
  rw [lg_entry_eq]
  generalize (lg_sl ([.ref h0, .int v0]) ++ List.replicate (3 - (lg_sl ([.ref h0, .int v0])).length) Slot.unset).toArray = ls at hl ⊢
  have hl : lv_has ls 3 [(0, .ref h0), (1, .int v0)] := hl
  have kf10 := hts (.fieldLink RX5 10 "PebbleInShoe" "texts" "LPebbleInShoe$Texts;") (by decide +kernel)
  have hiX5 := (by decide +kernel : ∀ w ∈ wsX50, w ∈ wsX5_force)
  have kf78 := hts (.fieldLink RX5 78 "PebbleInShoe$Texts" "number" "I") (by decide +kernel)
  have hiX3 := (by decide +kernel : ∀ w ∈ wsX30, w ∈ wsX5_force)
  have kf28 := hts (.fieldLink RX5 28 "PebbleInShoe" "now" "LPebbleInShoe$Court;") (by decide +kernel)
  have kf81 := hts (.fieldLink RX5 81 "PebbleInShoe$Court" "law" "I") (by decide +kernel)
  have hiX0 := (by decide +kernel : ∀ w ∈ wsX00, w ∈ wsX5_force)
  refine lv_iload_n hx hb dX5_force_0 rfl (lv_at hl 1 rfl) ?_
  refine lv_if_lt (tgt := 15) hx hb dX5_force_1 (by decide) (fun c_1 => ?_) (fun c_1 => ?_)
  · skip
    refine lv_bipush (v := -2) hx hb dX5_force_15 (by decide) ?_
    have hpost : (fun (r : Int32) (u : Unit) => match u with | _ => r = (if 0 ≤ v0 ∧ v0 ≤ 0 then 0 else -2)) (-2) () := pp_X5_force_0_1 v0 c_1
    exact W.iret (v := (-2)) hx hb hr (fun t ht hW => ⟨⟨(-2), (), rfl, hpost, trivial⟩, hS.F ht⟩) hS.2.2 dX5_force_17
  · skip
    refine lv_iload_n hx hb dX5_force_4 rfl (lv_at hl 1 rfl) ?_
    refine lv_aload_n hx hb dX5_force_5 rfl (lv_at hl 0 rfl) ?_
    refine va_get (D := G.1) (ci := 5) (v := .ref tt) (C := RX5) (T := TX5) (N := 8) hx hb hts hiX5 hown hK hP 0 rfl rfl 0 (by decide) kf10 (fun _ h9 => h9) rfl dX5_force_6 ?_
    refine va_get (D := G.1) (ci := 3) (v := .int 1) (C := RX3) (T := TX3) (N := 5) hx hb hts hiX3 hown hK hP 1 rfl rfl 4 (by decide) kf78 (fun _ h9 => h9) rfl dX5_force_9 ?_
    refine lv_icmp_lt (tgt := 18) hx hb dX5_force_12 (by decide) (fun c_2 => ?_) (fun c_2 => ?_)
    · skip
      refine lv_aload_n hx hb dX5_force_18 rfl (lv_at hl 0 rfl) ?_
      refine va_get (D := G.1) (ci := 5) (v := .ref nw) (C := RX5) (T := TX5) (N := 8) hx hb hts hiX5 hown hK hP 0 rfl rfl 2 (by decide) kf28 (fun _ h9 => h9) rfl dX5_force_19 ?_
      refine va_get (D := G.1) (ci := 0) (v := .int 0) (C := RX0) (T := TX0) (N := 12) hx hb hts hiX0 hown hK hP 2 rfl rfl 11 (by decide) kf81 (fun _ h9 => h9) rfl dX5_force_22 ?_
      refine lv_istore_n (lv' := [(2, .int 0), (0, .ref h0), (1, .int v0)]) hx hb dX5_force_25 rfl hl (by decide) rfl (fun ls hl => ?_)
      refine lv_aload_n hx hb dX5_force_26 rfl (lv_at hl 1 rfl) ?_
      refine va_get (D := G.1) (ci := 5) (v := .ref nw) (C := RX5) (T := TX5) (N := 8) hx hb hts hiX5 hown hK hP 0 rfl rfl 2 (by decide) kf28 (fun _ h9 => h9) rfl dX5_force_27 ?_
      refine lv_iload_n hx hb dX5_force_30 rfl (lv_at hl 2 rfl) ?_
      refine va_put (D := G.1) (ci := 0) (v := .int v0) (ty := .int) (C := RX0) (T := TX0) (N := 12) hx hb hts hiX0 tyX0 tyX0_ok nmX0 hown hK hP hD hS 2 rfl rfl 11 (by decide) kf81 (fun _ h9 => h9) rfl (by decide +kernel) rfl rfl (Nat.le_of_ble_eq_true rfl) dX5_force_31 (fun H locs hP hD hS => ?_)
      have hP : va_P G.1 vwCl [(h0, .inr (5, [.ref tt, .ref rd, .ref nw, .ref th, .ref kp, .ref sh, .ref tu, .int 0])), (tt, .inr (3, [.ref co, .ref en, .ref sk, .int 5, .int 1])), (nw, .inr (0, [.ref tt, .ref n1, .ref n2, .ref n3, .ref n4, .ref n5, .ref n6, .ref n7, .ref n8, .int 0, .int 0, .int v0]))] H := hP
      have hD : va_D A [(h0, .inr (5, [.ref tt, .ref rd, .ref nw, .ref th, .ref kp, .ref sh, .ref tu, .int 0])), (tt, .inr (3, [.ref co, .ref en, .ref sk, .int 5, .int 1])), (nw, .inr (0, [.ref tt, .ref n1, .ref n2, .ref n3, .ref n4, .ref n5, .ref n6, .ref n7, .ref n8, .int 0, .int 0, .int v0]))] := hD
      refine lv_iload_n hx hb dX5_force_34 rfl (lv_at hl 0 rfl) ?_
      have hpost : (fun (r : Int32) (u : Unit) => match u with | _ => r = (if 0 ≤ v0 ∧ v0 ≤ 0 then 0 else -2)) 0 () := pp_X5_force_0_2 v0 c_1 c_2
      exact W.iret (v := 0) hx hb hr (fun t ht hW => ⟨⟨0, (), rfl, hpost, trivial⟩, hS.F ht⟩) hS.2.2 dX5_force_35
    · skip
      refine lv_bipush (v := -2) hx hb dX5_force_15 (by decide) ?_
      have hpost : (fun (r : Int32) (u : Unit) => match u with | _ => r = (if 0 ≤ v0 ∧ v0 ≤ 0 then 0 else -2)) (-2) () := pp_X5_force_0_3 v0 c_1 c_2
      exact W.iret (v := (-2)) hx hb hr (fun t ht hW => ⟨⟨(-2), (), rfl, hpost, trivial⟩, hS.F ht⟩) hS.2.2 dX5_force_17
theorem pp_X5_pebble_0_1 (v0 : Int32) (v1 : Int32) (n_5 : ¬ (0 ≤ v0 ∧ v0 ≤ 59)) : ((-2) : Int32) = (if (0 ≤ v0 ∧ v0 ≤ 59) ∧ (0 ≤ v1 ∧ v1 ≤ 9999) then 0 else -2) := by
  first
    | rfl
    | exact bz_pos (by (first | omega | (simp only [Int32.lt_iff_toInt_lt, Int32.le_iff_toInt_le, ← Int32.toInt_inj, Int32.reduceToInt] at * <;> omega)))
    | exact bz_neg (by (first | omega | (simp only [Int32.lt_iff_toInt_lt, Int32.le_iff_toInt_le, ← Int32.toInt_inj, Int32.reduceToInt] at * <;> omega)))
    | ((repeat' split) <;> first | rfl | assumption | (symm; assumption) | (exfalso; (first | omega | (simp only [Int32.lt_iff_toInt_lt, Int32.le_iff_toInt_le, ← Int32.toInt_inj, Int32.reduceToInt] at * <;> omega))))
theorem pp_X5_pebble_0_2 (v0 : Int32) (v1 : Int32) (p_4 : 0 ≤ v0 ∧ v0 ≤ 59) (p_9 : 0 ≤ v1 ∧ v1 ≤ 9999) : (0 : Int32) = (if (0 ≤ v0 ∧ v0 ≤ 59) ∧ (0 ≤ v1 ∧ v1 ≤ 9999) then 0 else -2) := by
  first
    | rfl
    | exact bz_pos (by (first | omega | (simp only [Int32.lt_iff_toInt_lt, Int32.le_iff_toInt_le, ← Int32.toInt_inj, Int32.reduceToInt] at * <;> omega)))
    | exact bz_neg (by (first | omega | (simp only [Int32.lt_iff_toInt_lt, Int32.le_iff_toInt_le, ← Int32.toInt_inj, Int32.reduceToInt] at * <;> omega)))
    | ((repeat' split) <;> first | rfl | assumption | (symm; assumption) | (exfalso; (first | omega | (simp only [Int32.lt_iff_toInt_lt, Int32.le_iff_toInt_le, ← Int32.toInt_inj, Int32.reduceToInt] at * <;> omega))))
theorem pp_X5_pebble_0_3 (v0 : Int32) (v1 : Int32) (p_4 : 0 ≤ v0 ∧ v0 ≤ 59) (n_10 : ¬ (0 ≤ v1 ∧ v1 ≤ 9999)) : ((-2) : Int32) = (if (0 ≤ v0 ∧ v0 ≤ 59) ∧ (0 ≤ v1 ∧ v1 ≤ 9999) then 0 else -2) := by
  first
    | rfl
    | exact bz_pos (by (first | omega | (simp only [Int32.lt_iff_toInt_lt, Int32.le_iff_toInt_le, ← Int32.toInt_inj, Int32.reduceToInt] at * <;> omega)))
    | exact bz_neg (by (first | omega | (simp only [Int32.lt_iff_toInt_lt, Int32.le_iff_toInt_le, ← Int32.toInt_inj, Int32.reduceToInt] at * <;> omega)))
    | ((repeat' split) <;> first | rfl | assumption | (symm; assumption) | (exfalso; (first | omega | (simp only [Int32.lt_iff_toInt_lt, Int32.le_iff_toInt_le, ← Int32.toInt_inj, Int32.reduceToInt] at * <;> omega))))
abbrev q_X5_pebble_0 (G : gG) (h0 tt rd nw th kp sh tu n1 n2 n3 n4 n5 n6 n7 n8 : Nat) (v0 : Int32) (v1 : Int32) (A : Nat → Prop) : Array Value → State → Outcome → State → Prop := va_Qi (fun (r : Int32) (u : Unit) => match u with | _ => r = (if (0 ≤ v0 ∧ v0 ≤ 59) ∧ (0 ≤ v1 ∧ v1 ≤ 9999) then 0 else -2)) (fun (u : Unit) t => match u with | _ => True) A
set_option maxHeartbeats 4000000 in
set_option maxRecDepth 100000 in
theorem c_X5_pebble_0 (l : Launch) (G : gG) (h0 tt rd nw th kp sh tu n1 n2 n3 n4 n5 n6 n7 n8 : Nat) (v0 : Int32) (v1 : Int32) (sz : Nat) : Met l yX5_pebble wsX5_pebble ({ frames := 1, cells := 0, slots := 0, locals := 23 }) (gPre G [.ref h0, .int v0, .int v1] [(h0, .inr (5, [.ref tt, .ref rd, .ref nw, .ref th, .ref kp, .ref sh, .ref tu, .int 0])), (nw, .inr (0, [.ref tt, .ref n1, .ref n2, .ref n3, .ref n4, .ref n5, .ref n6, .ref n7, .ref n8, .int 0, .int 0, .int 0])), (n5, .inl (G.2.1, 6, .inl (fun _ => 0))), (n6, .inl (G.2.1, 6, .inl (fun _ => 0))), (n7, .inl (G.2.1, 6, .inl (fun _ => 0))), (n8, .inl (G.2.1, 6, .inl (fun _ => 0)))] sz) (q_X5_pebble_0 G h0 tt rd nw th kp sh tu n1 n2 n3 n4 n5 n6 n7 n8 v0 v1 (va_A [(h0, .inr (5, [.ref tt, .ref rd, .ref nw, .ref th, .ref kp, .ref sh, .ref tu, .int 0])), (nw, .inr (0, [.ref tt, .ref n1, .ref n2, .ref n3, .ref n4, .ref n5, .ref n6, .ref n7, .ref n8, .int 0, .int 0, .int 0])), (n5, .inl (G.2.1, 6, .inl (fun _ => 0))), (n6, .inl (G.2.1, 6, .inl (fun _ => 0))), (n7, .inl (G.2.1, 6, .inl (fun _ => 0))), (n8, .inl (G.2.1, 6, .inl (fun _ => 0)))] sz)) 0 0 (va_A [(h0, .inr (5, [.ref tt, .ref rd, .ref nw, .ref th, .ref kp, .ref sh, .ref tu, .int 0])), (nw, .inr (0, [.ref tt, .ref n1, .ref n2, .ref n3, .ref n4, .ref n5, .ref n6, .ref n7, .ref n8, .int 0, .int 0, .int 0])), (n5, .inl (G.2.1, 6, .inl (fun _ => 0))), (n6, .inl (G.2.1, 6, .inl (fun _ => 0))), (n7, .inl (G.2.1, 6, .inl (fun _ => 0))), (n8, .inl (G.2.1, 6, .inl (fun _ => 0)))] sz) := by
  refine Met.ofW (cc := cX5_pebble) (maxL := 3) (ret := (some .int)) (by decide) rfl ?_
  intro p e s m args below meth c s₁ B hml hv
  obtain ⟨rfl, hsz, hP, hK, hD0⟩ := hv
  have hx := B.exec
  have hb := B.bytes
  have hr := B.returns
  have hts := atoms_spec (ws := wsX5_pebble) B.pre
  have hown : s.vm.findClass RX5 = some m.cls := findClass_of_methodNamed B.named
  have hlocks := B.notSynchronized
  subst hsz
  have hD := hD0.self (sz := s.heap.size)
  generalize hAe : va_A [(h0, .inr (5, [.ref tt, .ref rd, .ref nw, .ref th, .ref kp, .ref sh, .ref tu, .int 0])), (nw, .inr (0, [.ref tt, .ref n1, .ref n2, .ref n3, .ref n4, .ref n5, .ref n6, .ref n7, .ref n8, .int 0, .int 0, .int 0])), (n5, .inl (G.2.1, 6, .inl (fun _ => 0))), (n6, .inl (G.2.1, 6, .inl (fun _ => 0))), (n7, .inl (G.2.1, 6, .inl (fun _ => 0))), (n8, .inl (G.2.1, 6, .inl (fun _ => 0)))] s.heap.size = A at hD ⊢
  have hA : ∀ q : Nat, s.heap.size ≤ q → A q := fun q h => by rw [← hAe]; exact Or.inr h
  have hS : va_S A s.heap s.heap [] := va_S.rf
  have hP : va_P G.1 vwCl [(h0, .inr (5, [.ref tt, .ref rd, .ref nw, .ref th, .ref kp, .ref sh, .ref tu, .int 0])), (nw, .inr (0, [.ref tt, .ref n1, .ref n2, .ref n3, .ref n4, .ref n5, .ref n6, .ref n7, .ref n8, .int 0, .int 0, .int 0])), (n5, .inl (G.2.1, 6, .inl (fun _ => 0))), (n6, .inl (G.2.1, 6, .inl (fun _ => 0))), (n7, .inl (G.2.1, 6, .inl (fun _ => 0))), (n8, .inl (G.2.1, 6, .inl (fun _ => 0)))] s.heap := hP
  have hD : va_D A [(h0, .inr (5, [.ref tt, .ref rd, .ref nw, .ref th, .ref kp, .ref sh, .ref tu, .int 0])), (nw, .inr (0, [.ref tt, .ref n1, .ref n2, .ref n3, .ref n4, .ref n5, .ref n6, .ref n7, .ref n8, .int 0, .int 0, .int 0])), (n5, .inl (G.2.1, 6, .inl (fun _ => 0))), (n6, .inl (G.2.1, 6, .inl (fun _ => 0))), (n7, .inl (G.2.1, 6, .inl (fun _ => 0))), (n8, .inl (G.2.1, 6, .inl (fun _ => 0)))] := hD
  have hl := lv_entry ([.ref h0, .int v0, .int v1]) (n := 3) (Nat.le_of_ble_eq_true rfl)
  rw [lg_entry_eq]
  generalize (lg_sl ([.ref h0, .int v0, .int v1]) ++ List.replicate (3 - (lg_sl ([.ref h0, .int v0, .int v1])).length) Slot.unset).toArray = ls at hl ⊢
  have hl : lv_has ls 3 [(0, .ref h0), (1, .int v0), (2, .int v1)] := hl
  have kf28 := hts (.fieldLink RX5 28 "PebbleInShoe" "now" "LPebbleInShoe$Court;") (by decide +kernel)
  have hiX5 := (by decide +kernel : ∀ w ∈ wsX50, w ∈ wsX5_pebble)
  refine lv_iload_n hx hb dX5_pebble_0 rfl (lv_at hl 1 rfl) ?_
  refine lv_bipush (v := 59) hx hb dX5_pebble_1 (by decide) ?_
  have hPc : va_P G.1 vwCl [] s.heap := hP.sub [] rfl
  have hDc : va_D A [] := hD.sub [] (by decide) rfl
  have hFc := va_free (wc := []) hD hS hA [] rfl
  refine va_calli (va_runS (As := [.int v0, .int 59]) (rest := []) ⟨hx, hb, hml, hown, hts⟩ (c_X5_within l G v0 59 s.heap.size) (va_cwS 2 hts gX5_pebble_X5_within rfl rfl rfl (by decide +kernel) ⟨Nat.le_of_ble_eq_true rfl, Nat.le_of_ble_eq_true rfl⟩) ⟨gPre_blind, fun U hU hW => gPre_of hU hW hK hPc hDc⟩ rfl rfl hl.1 rfl (lv_room (Nat.le_of_ble_eq_true rfl)) dX5_pebble_3 ⟨Nat.le_of_ble_eq_true rfl, Nat.le_of_ble_eq_true rfl⟩) hS (fun q _ h => hFc q h) hFc (fun r_1 u t H locs ht hvm w_2 hB hz1 hk1 hS => ?_)
  obtain ⟨hP1, hK1, hD1⟩ := hB
  rw [ht] at hP1
  have hP1 : va_P G.1 vwCl [] H := hP1
  have hD1 : va_D (va_A [] s.heap.size) [] := hD1
  have w_2 : r_1 = bz (decide (0 ≤ v0 ∧ v0 ≤ 59)) := w_2
  obtain ⟨hP, hD⟩ := va_join (wr := [(h0, .inr (5, [.ref tt, .ref rd, .ref nw, .ref th, .ref kp, .ref sh, .ref tu, .int 0])), (nw, .inr (0, [.ref tt, .ref n1, .ref n2, .ref n3, .ref n4, .ref n5, .ref n6, .ref n7, .ref n8, .int 0, .int 0, .int 0])), (n5, .inl (G.2.1, 6, .inl (fun _ => 0))), (n6, .inl (G.2.1, 6, .inl (fun _ => 0))), (n7, .inl (G.2.1, 6, .inl (fun _ => 0))), (n8, .inl (G.2.1, 6, .inl (fun _ => 0)))]) (w1 := []) hP hD [] [0, 1, 2, 3, 4, 5] rfl rfl (by decide) (by decide) hk1 hFc hP1 hD1
  have hP : va_P G.1 vwCl [(h0, .inr (5, [.ref tt, .ref rd, .ref nw, .ref th, .ref kp, .ref sh, .ref tu, .int 0])), (nw, .inr (0, [.ref tt, .ref n1, .ref n2, .ref n3, .ref n4, .ref n5, .ref n6, .ref n7, .ref n8, .int 0, .int 0, .int 0])), (n5, .inl (G.2.1, 6, .inl (fun _ => 0))), (n6, .inl (G.2.1, 6, .inl (fun _ => 0))), (n7, .inl (G.2.1, 6, .inl (fun _ => 0))), (n8, .inl (G.2.1, 6, .inl (fun _ => 0)))] H := hP
  have hD : va_D A [(h0, .inr (5, [.ref tt, .ref rd, .ref nw, .ref th, .ref kp, .ref sh, .ref tu, .int 0])), (nw, .inr (0, [.ref tt, .ref n1, .ref n2, .ref n3, .ref n4, .ref n5, .ref n6, .ref n7, .ref n8, .int 0, .int 0, .int 0])), (n5, .inl (G.2.1, 6, .inl (fun _ => 0))), (n6, .inl (G.2.1, 6, .inl (fun _ => 0))), (n7, .inl (G.2.1, 6, .inl (fun _ => 0))), (n8, .inl (G.2.1, 6, .inl (fun _ => 0)))] := hD
  refine lv_if_eq (tgt := 19) hx hb dX5_pebble_6 (by decide) (fun c_3 => ?_) (fun c_3 => ?_)
  · skip
    have n_5 : ¬ (0 ≤ v0 ∧ v0 ≤ 59) := of_decide_eq_false (bz_eq w_2 c_3)
    refine lv_bipush (v := -2) hx hb dX5_pebble_19 (by decide) ?_
    have hpost : (fun (r : Int32) (u : Unit) => match u with | _ => r = (if (0 ≤ v0 ∧ v0 ≤ 59) ∧ (0 ≤ v1 ∧ v1 ≤ 9999) then 0 else -2)) (-2) () := pp_X5_pebble_0_1 v0 v1 n_5
    exact W.iret (v := (-2)) hx hb hr (fun t ht hW => ⟨⟨(-2), (), rfl, hpost, trivial⟩, hS.F ht⟩) hS.2.2 dX5_pebble_21
  · skip
    have p_4 : 0 ≤ v0 ∧ v0 ≤ 59 := of_decide_eq_true (bz_ne w_2 c_3)
    refine lv_iload_n hx hb dX5_pebble_9 rfl (lv_at hl 2 rfl) ?_
    refine lv_sipush (v := 9999) hx hb dX5_pebble_10 (by decide) ?_
    have hPc : va_P G.1 vwCl [] H := hP.sub [] rfl
    have hDc : va_D A [] := hD.sub [] (by decide) rfl
    have hFc := va_free (wc := []) hD hS hA [] rfl
    refine va_calli (va_runS (As := [.int v1, .int 9999]) (rest := []) ⟨hx, hb, hml, hown, hts⟩ (c_X5_within l G v1 9999 H.size) (va_cwS 2 hts gX5_pebble_X5_within rfl rfl rfl (by decide +kernel) ⟨Nat.le_of_ble_eq_true rfl, Nat.le_of_ble_eq_true rfl⟩) ⟨gPre_blind, fun U hU hW => gPre_of hU hW hK hPc hDc⟩ rfl rfl hl.1 rfl (lv_room (Nat.le_of_ble_eq_true rfl)) dX5_pebble_13 ⟨Nat.le_of_ble_eq_true rfl, Nat.le_of_ble_eq_true rfl⟩) hS (fun q _ h => hFc q h) hFc (fun r_6 u t H locs ht hvm w_7 hB hz1 hk1 hS => ?_)
    obtain ⟨hP1, hK1, hD1⟩ := hB
    rw [ht] at hP1
    have hP1 : va_P G.1 vwCl [] H := hP1
    have hD1 : va_D (va_A [] _) [] := hD1
    have w_7 : r_6 = bz (decide (0 ≤ v1 ∧ v1 ≤ 9999)) := w_7
    obtain ⟨hP, hD⟩ := va_join (wr := [(h0, .inr (5, [.ref tt, .ref rd, .ref nw, .ref th, .ref kp, .ref sh, .ref tu, .int 0])), (nw, .inr (0, [.ref tt, .ref n1, .ref n2, .ref n3, .ref n4, .ref n5, .ref n6, .ref n7, .ref n8, .int 0, .int 0, .int 0])), (n5, .inl (G.2.1, 6, .inl (fun _ => 0))), (n6, .inl (G.2.1, 6, .inl (fun _ => 0))), (n7, .inl (G.2.1, 6, .inl (fun _ => 0))), (n8, .inl (G.2.1, 6, .inl (fun _ => 0)))]) (w1 := []) hP hD [] [0, 1, 2, 3, 4, 5] rfl rfl (by decide) (by decide) hk1 hFc hP1 hD1
    have hP : va_P G.1 vwCl [(h0, .inr (5, [.ref tt, .ref rd, .ref nw, .ref th, .ref kp, .ref sh, .ref tu, .int 0])), (nw, .inr (0, [.ref tt, .ref n1, .ref n2, .ref n3, .ref n4, .ref n5, .ref n6, .ref n7, .ref n8, .int 0, .int 0, .int 0])), (n5, .inl (G.2.1, 6, .inl (fun _ => 0))), (n6, .inl (G.2.1, 6, .inl (fun _ => 0))), (n7, .inl (G.2.1, 6, .inl (fun _ => 0))), (n8, .inl (G.2.1, 6, .inl (fun _ => 0)))] H := hP
    have hD : va_D A [(h0, .inr (5, [.ref tt, .ref rd, .ref nw, .ref th, .ref kp, .ref sh, .ref tu, .int 0])), (nw, .inr (0, [.ref tt, .ref n1, .ref n2, .ref n3, .ref n4, .ref n5, .ref n6, .ref n7, .ref n8, .int 0, .int 0, .int 0])), (n5, .inl (G.2.1, 6, .inl (fun _ => 0))), (n6, .inl (G.2.1, 6, .inl (fun _ => 0))), (n7, .inl (G.2.1, 6, .inl (fun _ => 0))), (n8, .inl (G.2.1, 6, .inl (fun _ => 0)))] := hD
    refine lv_if_ne (tgt := 22) hx hb dX5_pebble_16 (by decide) (fun c_8 => ?_) (fun c_8 => ?_)
    · skip
      have p_9 : 0 ≤ v1 ∧ v1 ≤ 9999 := of_decide_eq_true (bz_ne w_7 c_8)
      refine lv_aload_n hx hb dX5_pebble_22 rfl (lv_at hl 0 rfl) ?_
      refine va_get (D := G.1) (ci := 5) (v := .ref nw) (C := RX5) (T := TX5) (N := 8) hx hb hts hiX5 hown hK hP 0 rfl rfl 2 (by decide) kf28 (fun _ h9 => h9) rfl dX5_pebble_23 ?_
      refine lv_iload_n hx hb dX5_pebble_26 rfl (lv_at hl 1 rfl) ?_
      refine lv_iload_n hx hb dX5_pebble_27 rfl (lv_at hl 2 rfl) ?_
      have hPc : va_P G.1 vwCl [(nw, .inr (0, [.ref tt, .ref n1, .ref n2, .ref n3, .ref n4, .ref n5, .ref n6, .ref n7, .ref n8, .int 0, .int 0, .int 0])), (n5, .inl (G.2.1, 6, .inl (fun _ => 0))), (n6, .inl (G.2.1, 6, .inl (fun _ => 0))), (n7, .inl (G.2.1, 6, .inl (fun _ => 0))), (n8, .inl (G.2.1, 6, .inl (fun _ => 0)))] H := hP.sub [1, 2, 3, 4, 5] rfl
      have hDc : va_D A [(nw, .inr (0, [.ref tt, .ref n1, .ref n2, .ref n3, .ref n4, .ref n5, .ref n6, .ref n7, .ref n8, .int 0, .int 0, .int 0])), (n5, .inl (G.2.1, 6, .inl (fun _ => 0))), (n6, .inl (G.2.1, 6, .inl (fun _ => 0))), (n7, .inl (G.2.1, 6, .inl (fun _ => 0))), (n8, .inl (G.2.1, 6, .inl (fun _ => 0)))] := hD.sub [1, 2, 3, 4, 5] (by decide) rfl
      have hFc := va_free (wc := [(nw, .inr (0, [.ref tt, .ref n1, .ref n2, .ref n3, .ref n4, .ref n5, .ref n6, .ref n7, .ref n8, .int 0, .int 0, .int 0])), (n5, .inl (G.2.1, 6, .inl (fun _ => 0))), (n6, .inl (G.2.1, 6, .inl (fun _ => 0))), (n7, .inl (G.2.1, 6, .inl (fun _ => 0))), (n8, .inl (G.2.1, 6, .inl (fun _ => 0)))]) hD hS hA [1, 2, 3, 4, 5] rfl
      refine va_calli (va_runV (As := [.int v0, .int v1]) (rest := []) ⟨hx, hb, hml, hown, hts⟩ (c_X0_addPebble_0 l G nw tt n1 n2 n3 n4 n5 n6 n7 n8 v0 v1 H.size) (cwV 2 hts gX5_pebble_X0_addPebble rfl rfl rfl (by decide +kernel) ⟨Nat.le_of_ble_eq_true rfl, Nat.le_of_ble_eq_true rfl⟩) ⟨gPre_blind, va_recv hK hPc (ci := 0) (q0 := 0) rfl rfl, fun U hU hW => gPre_of hU hW hK hPc hDc⟩ rfl rfl hl.1 rfl (lv_room (Nat.le_of_ble_eq_true rfl)) dX5_pebble_28 ⟨Nat.le_of_ble_eq_true rfl, Nat.le_of_ble_eq_true rfl⟩) hS (fun q _ h => hFc q h) hFc (fun r_11 u t H locs ht hvm w_12 hB hz1 hk1 hS => ?_)
      obtain ⟨y5_13, y6_14, y7_15, y8_16⟩ := u
      obtain ⟨hP1, hK1, hD1⟩ := hB
      rw [ht] at hP1
      have hP1 : va_P G.1 vwCl [(nw, .inr (0, [.ref tt, .ref n1, .ref n2, .ref n3, .ref n4, .ref n5, .ref n6, .ref n7, .ref n8, .int 0, .int 1, .int 0])), (n5, .inl (G.2.1, 6, .inl y5_13)), (n6, .inl (G.2.1, 6, .inl y6_14)), (n7, .inl (G.2.1, 6, .inl y7_15)), (n8, .inl (G.2.1, 6, .inl y8_16))] H := hP1
      have hD1 : va_D (va_A [(nw, .inr (0, [.ref tt, .ref n1, .ref n2, .ref n3, .ref n4, .ref n5, .ref n6, .ref n7, .ref n8, .int 0, .int 0, .int 0])), (n5, .inl (G.2.1, 6, .inl (fun _ => 0))), (n6, .inl (G.2.1, 6, .inl (fun _ => 0))), (n7, .inl (G.2.1, 6, .inl (fun _ => 0))), (n8, .inl (G.2.1, 6, .inl (fun _ => 0)))] _) [(nw, .inr (0, [.ref tt, .ref n1, .ref n2, .ref n3, .ref n4, .ref n5, .ref n6, .ref n7, .ref n8, .int 0, .int 1, .int 0])), (n5, .inl (G.2.1, 6, .inl y5_13)), (n6, .inl (G.2.1, 6, .inl y6_14)), (n7, .inl (G.2.1, 6, .inl y7_15)), (n8, .inl (G.2.1, 6, .inl y8_16))] := hD1
      have w_12 : r_11 = 0 := w_12
      obtain ⟨hP, hD⟩ := va_join (wr := [(h0, .inr (5, [.ref tt, .ref rd, .ref nw, .ref th, .ref kp, .ref sh, .ref tu, .int 0]))]) (w1 := [(nw, .inr (0, [.ref tt, .ref n1, .ref n2, .ref n3, .ref n4, .ref n5, .ref n6, .ref n7, .ref n8, .int 0, .int 1, .int 0])), (n5, .inl (G.2.1, 6, .inl y5_13)), (n6, .inl (G.2.1, 6, .inl y6_14)), (n7, .inl (G.2.1, 6, .inl y7_15)), (n8, .inl (G.2.1, 6, .inl y8_16))]) hP hD [1, 2, 3, 4, 5] [0] rfl rfl (by decide) (by decide) hk1 hFc hP1 hD1
      have hP : va_P G.1 vwCl [(h0, .inr (5, [.ref tt, .ref rd, .ref nw, .ref th, .ref kp, .ref sh, .ref tu, .int 0])), (nw, .inr (0, [.ref tt, .ref n1, .ref n2, .ref n3, .ref n4, .ref n5, .ref n6, .ref n7, .ref n8, .int 0, .int 1, .int 0])), (n5, .inl (G.2.1, 6, .inl y5_13)), (n6, .inl (G.2.1, 6, .inl y6_14)), (n7, .inl (G.2.1, 6, .inl y7_15)), (n8, .inl (G.2.1, 6, .inl y8_16))] H := hP
      have hD : va_D A [(h0, .inr (5, [.ref tt, .ref rd, .ref nw, .ref th, .ref kp, .ref sh, .ref tu, .int 0])), (nw, .inr (0, [.ref tt, .ref n1, .ref n2, .ref n3, .ref n4, .ref n5, .ref n6, .ref n7, .ref n8, .int 0, .int 1, .int 0])), (n5, .inl (G.2.1, 6, .inl y5_13)), (n6, .inl (G.2.1, 6, .inl y6_14)), (n7, .inl (G.2.1, 6, .inl y7_15)), (n8, .inl (G.2.1, 6, .inl y8_16))] := hD
      have w_12 : r_11 = 0 := w_12
      subst w_12
      have hpost : (fun (r : Int32) (u : Unit) => match u with | _ => r = (if (0 ≤ v0 ∧ v0 ≤ 59) ∧ (0 ≤ v1 ∧ v1 ≤ 9999) then 0 else -2)) 0 () := pp_X5_pebble_0_2 v0 v1 p_4 p_9
      exact W.iret (v := 0) hx hb hr (fun t ht hW => ⟨⟨0, (), rfl, hpost, trivial⟩, hS.F ht⟩) hS.2.2 dX5_pebble_31
    · skip
      have n_10 : ¬ (0 ≤ v1 ∧ v1 ≤ 9999) := of_decide_eq_false (bz_eq w_7 c_8)
      refine lv_bipush (v := -2) hx hb dX5_pebble_19 (by decide) ?_
      have hpost : (fun (r : Int32) (u : Unit) => match u with | _ => r = (if (0 ≤ v0 ∧ v0 ≤ 59) ∧ (0 ≤ v1 ∧ v1 ≤ 9999) then 0 else -2)) (-2) () := pp_X5_pebble_0_3 v0 v1 p_4 n_10
      exact W.iret (v := (-2)) hx hb hr (fun t ht hW => ⟨⟨(-2), (), rfl, hpost, trivial⟩, hS.F ht⟩) hS.2.2 dX5_pebble_21
theorem pp_X5_hardest_0_1 (v0 : Int32) (v1 : Int32) (n_5 : ¬ (0 ≤ v0 ∧ v0 ≤ 60)) : ((-2) : Int32) = (if (0 ≤ v0 ∧ v0 ≤ 60) ∧ (0 ≤ v1 ∧ v1 ≤ 1) then -1 else -2) := by
  first
    | rfl
    | exact bz_pos (by (first | omega | (simp only [Int32.lt_iff_toInt_lt, Int32.le_iff_toInt_le, ← Int32.toInt_inj, Int32.reduceToInt] at * <;> omega)))
    | exact bz_neg (by (first | omega | (simp only [Int32.lt_iff_toInt_lt, Int32.le_iff_toInt_le, ← Int32.toInt_inj, Int32.reduceToInt] at * <;> omega)))
    | ((repeat' split) <;> first | rfl | assumption | (symm; assumption) | (exfalso; (first | omega | (simp only [Int32.lt_iff_toInt_lt, Int32.le_iff_toInt_le, ← Int32.toInt_inj, Int32.reduceToInt] at * <;> omega))))
theorem pp_X5_hardest_0_2 (v0 : Int32) (v1 : Int32) (p_4 : 0 ≤ v0 ∧ v0 ≤ 60) (p_9 : 0 ≤ v1 ∧ v1 ≤ 1) (c_12 : ¬ (v1 = 0)) : ((-1) : Int32) = (if (0 ≤ v0 ∧ v0 ≤ 60) ∧ (0 ≤ v1 ∧ v1 ≤ 1) then -1 else -2) := by
  first
    | rfl
    | exact bz_pos (by (first | omega | (simp only [Int32.lt_iff_toInt_lt, Int32.le_iff_toInt_le, ← Int32.toInt_inj, Int32.reduceToInt] at * <;> omega)))
    | exact bz_neg (by (first | omega | (simp only [Int32.lt_iff_toInt_lt, Int32.le_iff_toInt_le, ← Int32.toInt_inj, Int32.reduceToInt] at * <;> omega)))
    | ((repeat' split) <;> first | rfl | assumption | (symm; assumption) | (exfalso; (first | omega | (simp only [Int32.lt_iff_toInt_lt, Int32.le_iff_toInt_le, ← Int32.toInt_inj, Int32.reduceToInt] at * <;> omega))))
theorem pp_X5_hardest_0_3 (v0 : Int32) (v1 : Int32) (p_4 : 0 ≤ v0 ∧ v0 ≤ 60) (p_9 : 0 ≤ v1 ∧ v1 ≤ 1) (c_12 : v1 = 0) : ((-1) : Int32) = (if (0 ≤ v0 ∧ v0 ≤ 60) ∧ (0 ≤ v1 ∧ v1 ≤ 1) then -1 else -2) := by
  first
    | rfl
    | exact bz_pos (by (first | omega | (simp only [Int32.lt_iff_toInt_lt, Int32.le_iff_toInt_le, ← Int32.toInt_inj, Int32.reduceToInt] at * <;> omega)))
    | exact bz_neg (by (first | omega | (simp only [Int32.lt_iff_toInt_lt, Int32.le_iff_toInt_le, ← Int32.toInt_inj, Int32.reduceToInt] at * <;> omega)))
    | ((repeat' split) <;> first | rfl | assumption | (symm; assumption) | (exfalso; (first | omega | (simp only [Int32.lt_iff_toInt_lt, Int32.le_iff_toInt_le, ← Int32.toInt_inj, Int32.reduceToInt] at * <;> omega))))
theorem pp_X5_hardest_0_4 (v0 : Int32) (v1 : Int32) (p_4 : 0 ≤ v0 ∧ v0 ≤ 60) (n_10 : ¬ (0 ≤ v1 ∧ v1 ≤ 1)) : ((-2) : Int32) = (if (0 ≤ v0 ∧ v0 ≤ 60) ∧ (0 ≤ v1 ∧ v1 ≤ 1) then -1 else -2) := by
  first
    | rfl
    | exact bz_pos (by (first | omega | (simp only [Int32.lt_iff_toInt_lt, Int32.le_iff_toInt_le, ← Int32.toInt_inj, Int32.reduceToInt] at * <;> omega)))
    | exact bz_neg (by (first | omega | (simp only [Int32.lt_iff_toInt_lt, Int32.le_iff_toInt_le, ← Int32.toInt_inj, Int32.reduceToInt] at * <;> omega)))
    | ((repeat' split) <;> first | rfl | assumption | (symm; assumption) | (exfalso; (first | omega | (simp only [Int32.lt_iff_toInt_lt, Int32.le_iff_toInt_le, ← Int32.toInt_inj, Int32.reduceToInt] at * <;> omega))))
abbrev q_X5_hardest_0 (G : gG) (h0 tt rd nw th kp sh tu n1 n2 n3 n4 n5 n6 n7 n8 : Nat) (v0 : Int32) (v1 : Int32) (A : Nat → Prop) : Array Value → State → Outcome → State → Prop := va_Qi (fun (r : Int32) (u : Unit) => match u with | _ => r = (if (0 ≤ v0 ∧ v0 ≤ 60) ∧ (0 ≤ v1 ∧ v1 ≤ 1) then -1 else -2)) (fun (u : Unit) t => match u with | _ => True) A
set_option maxHeartbeats 4000000 in
set_option maxRecDepth 100000 in
theorem c_X5_hardest_0 (l : Launch) (G : gG) (h0 tt rd nw th kp sh tu n1 n2 n3 n4 n5 n6 n7 n8 : Nat) (v0 : Int32) (v1 : Int32) (sz : Nat) : Met l yX5_hardest wsX5_hardest ({ frames := 1, cells := 0, slots := 0, locals := 21 }) (gPre G [.ref h0, .int v0, .int v1] [(h0, .inr (5, [.ref tt, .ref rd, .ref nw, .ref th, .ref kp, .ref sh, .ref tu, .int 0])), (nw, .inr (0, [.ref tt, .ref n1, .ref n2, .ref n3, .ref n4, .ref n5, .ref n6, .ref n7, .ref n8, .int 0, .int 0, .int 0]))] sz) (q_X5_hardest_0 G h0 tt rd nw th kp sh tu n1 n2 n3 n4 n5 n6 n7 n8 v0 v1 (va_A [(h0, .inr (5, [.ref tt, .ref rd, .ref nw, .ref th, .ref kp, .ref sh, .ref tu, .int 0])), (nw, .inr (0, [.ref tt, .ref n1, .ref n2, .ref n3, .ref n4, .ref n5, .ref n6, .ref n7, .ref n8, .int 0, .int 0, .int 0]))] sz)) 0 0 (va_A [(h0, .inr (5, [.ref tt, .ref rd, .ref nw, .ref th, .ref kp, .ref sh, .ref tu, .int 0])), (nw, .inr (0, [.ref tt, .ref n1, .ref n2, .ref n3, .ref n4, .ref n5, .ref n6, .ref n7, .ref n8, .int 0, .int 0, .int 0]))] sz) := by
  refine Met.ofW (cc := cX5_hardest) (maxL := 7) (ret := (some .int)) (by decide) rfl ?_
  intro p e s m args below meth c s₁ B hml hv
  obtain ⟨rfl, hsz, hP, hK, hD0⟩ := hv
  have hx := B.exec
  have hb := B.bytes
  have hr := B.returns
  have hts := atoms_spec (ws := wsX5_hardest) B.pre
  have hown : s.vm.findClass RX5 = some m.cls := findClass_of_methodNamed B.named
  have hlocks := B.notSynchronized
  subst hsz
  have hD := hD0.self (sz := s.heap.size)
  generalize hAe : va_A [(h0, .inr (5, [.ref tt, .ref rd, .ref nw, .ref th, .ref kp, .ref sh, .ref tu, .int 0])), (nw, .inr (0, [.ref tt, .ref n1, .ref n2, .ref n3, .ref n4, .ref n5, .ref n6, .ref n7, .ref n8, .int 0, .int 0, .int 0]))] s.heap.size = A at hD ⊢
  have hA : ∀ q : Nat, s.heap.size ≤ q → A q := fun q h => by rw [← hAe]; exact Or.inr h
  have hS : va_S A s.heap s.heap [] := va_S.rf
  have hP : va_P G.1 vwCl [(h0, .inr (5, [.ref tt, .ref rd, .ref nw, .ref th, .ref kp, .ref sh, .ref tu, .int 0])), (nw, .inr (0, [.ref tt, .ref n1, .ref n2, .ref n3, .ref n4, .ref n5, .ref n6, .ref n7, .ref n8, .int 0, .int 0, .int 0]))] s.heap := hP
  have hD : va_D A [(h0, .inr (5, [.ref tt, .ref rd, .ref nw, .ref th, .ref kp, .ref sh, .ref tu, .int 0])), (nw, .inr (0, [.ref tt, .ref n1, .ref n2, .ref n3, .ref n4, .ref n5, .ref n6, .ref n7, .ref n8, .int 0, .int 0, .int 0]))] := hD
  have hl := lv_entry ([.ref h0, .int v0, .int v1]) (n := 7) (Nat.le_of_ble_eq_true rfl)
  rw [lg_entry_eq]
  generalize (lg_sl ([.ref h0, .int v0, .int v1]) ++ List.replicate (7 - (lg_sl ([.ref h0, .int v0, .int v1])).length) Slot.unset).toArray = ls at hl ⊢
  have hl : lv_has ls 7 [(0, .ref h0), (1, .int v0), (2, .int v1)] := hl
  have kf28 := hts (.fieldLink RX5 28 "PebbleInShoe" "now" "LPebbleInShoe$Court;") (by decide +kernel)
  have hiX5 := (by decide +kernel : ∀ w ∈ wsX50, w ∈ wsX5_hardest)
  have kf75 := hts (.fieldLink RX5 75 "PebbleInShoe$Court" "judges" "I") (by decide +kernel)
  have hiX0 := (by decide +kernel : ∀ w ∈ wsX00, w ∈ wsX5_hardest)
  refine lv_iload_n hx hb dX5_hardest_0 rfl (lv_at hl 1 rfl) ?_
  refine lv_bipush (v := 60) hx hb dX5_hardest_1 (by decide) ?_
  have hPc : va_P G.1 vwCl [] s.heap := hP.sub [] rfl
  have hDc : va_D A [] := hD.sub [] (by decide) rfl
  have hFc := va_free (wc := []) hD hS hA [] rfl
  refine va_calli (va_runS (As := [.int v0, .int 60]) (rest := []) ⟨hx, hb, hml, hown, hts⟩ (c_X5_within l G v0 60 s.heap.size) (va_cwS 2 hts gX5_hardest_X5_within rfl rfl rfl (by decide +kernel) ⟨Nat.le_of_ble_eq_true rfl, Nat.le_of_ble_eq_true rfl⟩) ⟨gPre_blind, fun U hU hW => gPre_of hU hW hK hPc hDc⟩ rfl rfl hl.1 rfl (lv_room (Nat.le_of_ble_eq_true rfl)) dX5_hardest_3 ⟨Nat.le_of_ble_eq_true rfl, Nat.le_of_ble_eq_true rfl⟩) hS (fun q _ h => hFc q h) hFc (fun r_1 u t H locs ht hvm w_2 hB hz1 hk1 hS => ?_)
  obtain ⟨hP1, hK1, hD1⟩ := hB
  rw [ht] at hP1
  have hP1 : va_P G.1 vwCl [] H := hP1
  have hD1 : va_D (va_A [] s.heap.size) [] := hD1
  have w_2 : r_1 = bz (decide (0 ≤ v0 ∧ v0 ≤ 60)) := w_2
  obtain ⟨hP, hD⟩ := va_join (wr := [(h0, .inr (5, [.ref tt, .ref rd, .ref nw, .ref th, .ref kp, .ref sh, .ref tu, .int 0])), (nw, .inr (0, [.ref tt, .ref n1, .ref n2, .ref n3, .ref n4, .ref n5, .ref n6, .ref n7, .ref n8, .int 0, .int 0, .int 0]))]) (w1 := []) hP hD [] [0, 1] rfl rfl (by decide) (by decide) hk1 hFc hP1 hD1
  have hP : va_P G.1 vwCl [(h0, .inr (5, [.ref tt, .ref rd, .ref nw, .ref th, .ref kp, .ref sh, .ref tu, .int 0])), (nw, .inr (0, [.ref tt, .ref n1, .ref n2, .ref n3, .ref n4, .ref n5, .ref n6, .ref n7, .ref n8, .int 0, .int 0, .int 0]))] H := hP
  have hD : va_D A [(h0, .inr (5, [.ref tt, .ref rd, .ref nw, .ref th, .ref kp, .ref sh, .ref tu, .int 0])), (nw, .inr (0, [.ref tt, .ref n1, .ref n2, .ref n3, .ref n4, .ref n5, .ref n6, .ref n7, .ref n8, .int 0, .int 0, .int 0]))] := hD
  refine lv_if_eq (tgt := 17) hx hb dX5_hardest_6 (by decide) (fun c_3 => ?_) (fun c_3 => ?_)
  · skip
    have n_5 : ¬ (0 ≤ v0 ∧ v0 ≤ 60) := of_decide_eq_false (bz_eq w_2 c_3)
    refine lv_bipush (v := -2) hx hb dX5_hardest_17 (by decide) ?_
    have hpost : (fun (r : Int32) (u : Unit) => match u with | _ => r = (if (0 ≤ v0 ∧ v0 ≤ 60) ∧ (0 ≤ v1 ∧ v1 ≤ 1) then -1 else -2)) (-2) () := pp_X5_hardest_0_1 v0 v1 n_5
    exact W.iret (v := (-2)) hx hb hr (fun t ht hW => ⟨⟨(-2), (), rfl, hpost, trivial⟩, hS.F ht⟩) hS.2.2 dX5_hardest_19
  · skip
    have p_4 : 0 ≤ v0 ∧ v0 ≤ 60 := of_decide_eq_true (bz_ne w_2 c_3)
    refine lv_iload_n hx hb dX5_hardest_9 rfl (lv_at hl 2 rfl) ?_
    refine lv_iconst (v := 1) hx hb dX5_hardest_10 (by decide) ?_
    have hPc : va_P G.1 vwCl [] H := hP.sub [] rfl
    have hDc : va_D A [] := hD.sub [] (by decide) rfl
    have hFc := va_free (wc := []) hD hS hA [] rfl
    refine va_calli (va_runS (As := [.int v1, .int 1]) (rest := []) ⟨hx, hb, hml, hown, hts⟩ (c_X5_within l G v1 1 H.size) (va_cwS 2 hts gX5_hardest_X5_within rfl rfl rfl (by decide +kernel) ⟨Nat.le_of_ble_eq_true rfl, Nat.le_of_ble_eq_true rfl⟩) ⟨gPre_blind, fun U hU hW => gPre_of hU hW hK hPc hDc⟩ rfl rfl hl.1 rfl (lv_room (Nat.le_of_ble_eq_true rfl)) dX5_hardest_11 ⟨Nat.le_of_ble_eq_true rfl, Nat.le_of_ble_eq_true rfl⟩) hS (fun q _ h => hFc q h) hFc (fun r_6 u t H locs ht hvm w_7 hB hz1 hk1 hS => ?_)
    obtain ⟨hP1, hK1, hD1⟩ := hB
    rw [ht] at hP1
    have hP1 : va_P G.1 vwCl [] H := hP1
    have hD1 : va_D (va_A [] _) [] := hD1
    have w_7 : r_6 = bz (decide (0 ≤ v1 ∧ v1 ≤ 1)) := w_7
    obtain ⟨hP, hD⟩ := va_join (wr := [(h0, .inr (5, [.ref tt, .ref rd, .ref nw, .ref th, .ref kp, .ref sh, .ref tu, .int 0])), (nw, .inr (0, [.ref tt, .ref n1, .ref n2, .ref n3, .ref n4, .ref n5, .ref n6, .ref n7, .ref n8, .int 0, .int 0, .int 0]))]) (w1 := []) hP hD [] [0, 1] rfl rfl (by decide) (by decide) hk1 hFc hP1 hD1
    have hP : va_P G.1 vwCl [(h0, .inr (5, [.ref tt, .ref rd, .ref nw, .ref th, .ref kp, .ref sh, .ref tu, .int 0])), (nw, .inr (0, [.ref tt, .ref n1, .ref n2, .ref n3, .ref n4, .ref n5, .ref n6, .ref n7, .ref n8, .int 0, .int 0, .int 0]))] H := hP
    have hD : va_D A [(h0, .inr (5, [.ref tt, .ref rd, .ref nw, .ref th, .ref kp, .ref sh, .ref tu, .int 0])), (nw, .inr (0, [.ref tt, .ref n1, .ref n2, .ref n3, .ref n4, .ref n5, .ref n6, .ref n7, .ref n8, .int 0, .int 0, .int 0]))] := hD
    refine lv_if_ne (tgt := 20) hx hb dX5_hardest_14 (by decide) (fun c_8 => ?_) (fun c_8 => ?_)
    · skip
      have p_9 : 0 ≤ v1 ∧ v1 ≤ 1 := of_decide_eq_true (bz_ne w_7 c_8)
      refine lv_iconst (v := -1) hx hb dX5_hardest_20 (by decide) ?_
      refine lv_istore_n (lv' := [(3, .int (-1)), (0, .ref h0), (1, .int v0), (2, .int v1)]) hx hb dX5_hardest_21 rfl hl (by decide) rfl (fun ls hl => ?_)
      refine lv_iconst (v := -1) hx hb dX5_hardest_22 (by decide) ?_
      refine lv_istore (lv' := [(4, .int (-1)), (3, .int (-1)), (0, .ref h0), (1, .int v0), (2, .int v1)]) hx hb dX5_hardest_23 hl (by decide) rfl (fun ls hl => ?_)
      refine lv_iconst (v := 0) hx hb dX5_hardest_25 (by decide) ?_
      refine lv_istore (lv' := [(5, .int 0), (4, .int (-1)), (3, .int (-1)), (0, .ref h0), (1, .int v0), (2, .int v1)]) hx hb dX5_hardest_26 hl (by decide) rfl (fun ls hl => ?_)
      refine lv_iload hx hb dX5_hardest_28 (lv_at hl 0 rfl) ?_
      refine lv_aload_n hx hb dX5_hardest_30 rfl (lv_at hl 3 rfl) ?_
      refine va_get (D := G.1) (ci := 5) (v := .ref nw) (C := RX5) (T := TX5) (N := 8) hx hb hts hiX5 hown hK hP 0 rfl rfl 2 (by decide) kf28 (fun _ h9 => h9) rfl dX5_hardest_31 ?_
      refine va_get (D := G.1) (ci := 0) (v := .int 0) (C := RX0) (T := TX0) (N := 12) hx hb hts hiX0 hown hK hP 1 rfl rfl 9 (by decide) kf75 (fun _ h9 => h9) rfl dX5_hardest_34 ?_
      refine lv_icmp_ge (tgt := 69) hx hb dX5_hardest_37 (by decide) (fun c_11 => ?_) (fun c_11 => ?_)
      rotate_left
      · exact absurd (by decide) c_11
      refine lv_iload_n hx hb dX5_hardest_69 rfl (lv_at hl 5 rfl) ?_
      refine lv_if_ne (tgt := 77) hx hb dX5_hardest_70 (by decide) (fun c_12 => ?_) (fun c_12 => ?_)
      · skip
        refine lv_iload hx hb dX5_hardest_77 (lv_at hl 1 rfl) ?_
        have hpost : (fun (r : Int32) (u : Unit) => match u with | _ => r = (if (0 ≤ v0 ∧ v0 ≤ 60) ∧ (0 ≤ v1 ∧ v1 ≤ 1) then -1 else -2)) (-1) () := pp_X5_hardest_0_2 v0 v1 p_4 p_9 c_12
        exact W.iret (v := (-1)) hx hb hr (fun t ht hW => ⟨⟨(-1), (), rfl, hpost, trivial⟩, hS.F ht⟩) hS.2.2 dX5_hardest_79
      · skip
        refine lv_iload_n hx hb dX5_hardest_73 rfl (lv_at hl 2 rfl) ?_
        refine lv_goto (tgt := 79) hx hb dX5_hardest_74 (by decide) ?_
        have hpost : (fun (r : Int32) (u : Unit) => match u with | _ => r = (if (0 ≤ v0 ∧ v0 ≤ 60) ∧ (0 ≤ v1 ∧ v1 ≤ 1) then -1 else -2)) (-1) () := pp_X5_hardest_0_3 v0 v1 p_4 p_9 c_12
        exact W.iret (v := (-1)) hx hb hr (fun t ht hW => ⟨⟨(-1), (), rfl, hpost, trivial⟩, hS.F ht⟩) hS.2.2 dX5_hardest_79
    · skip
      have n_10 : ¬ (0 ≤ v1 ∧ v1 ≤ 1) := of_decide_eq_false (bz_eq w_7 c_8)
      refine lv_bipush (v := -2) hx hb dX5_hardest_17 (by decide) ?_
      have hpost : (fun (r : Int32) (u : Unit) => match u with | _ => r = (if (0 ≤ v0 ∧ v0 ≤ 60) ∧ (0 ≤ v1 ∧ v1 ≤ 1) then -1 else -2)) (-2) () := pp_X5_hardest_0_4 v0 v1 p_4 n_10
      exact W.iret (v := (-2)) hx hb hr (fun t ht hW => ⟨⟨(-2), (), rfl, hpost, trivial⟩, hS.F ht⟩) hS.2.2 dX5_hardest_19
abbrev q_X5_reversed_0 (G : gG) (E : gS) (h0 tt rd nw th kp sh tu qn qo ql : Nat) (v0 : Int32) (v1 : Int32) (A : Nat → Prop) : Array Value → State → Outcome → State → Prop := va_Qi (fun (r : Int32) (u : Unit) => match u with | _ => r = (if 0 ≤ v0 ∧ v0 ≤ 3 then -11 else -2)) (fun (u : Unit) t => match u with | _ => True) A
set_option maxHeartbeats 4000000 in
set_option maxRecDepth 100000 in
theorem c_X5_reversed_0 (l : Launch) (G : gG) (E : gS) (h0 tt rd nw th kp sh tu qn qo ql : Nat) (v0 : Int32) (v1 : Int32) (sz : Nat) : Met l yX5_reversed wsX5_reversed ({ frames := 4, cells := 0, slots := 0, locals := 89 }) (gPreE G E [.ref h0, .int v0, .int v1] [(h0, .inr (5, [.ref tt, .ref rd, .ref nw, .ref th, .ref kp, .ref sh, .ref tu, .int 0])), (sh, .inr (2, [.ref qn, .ref qo, .ref ql])), (qo, .inl (G.2.1, 4, .inl (gFl (-1) (fun _ => 0) 4)))] sz) (q_X5_reversed_0 G E h0 tt rd nw th kp sh tu qn qo ql v0 v1 (va_A [(h0, .inr (5, [.ref tt, .ref rd, .ref nw, .ref th, .ref kp, .ref sh, .ref tu, .int 0])), (sh, .inr (2, [.ref qn, .ref qo, .ref ql])), (qo, .inl (G.2.1, 4, .inl (gFl (-1) (fun _ => 0) 4)))] sz)) 0 0 (va_A [(h0, .inr (5, [.ref tt, .ref rd, .ref nw, .ref th, .ref kp, .ref sh, .ref tu, .int 0])), (sh, .inr (2, [.ref qn, .ref qo, .ref ql])), (qo, .inl (G.2.1, 4, .inl (gFl (-1) (fun _ => 0) 4)))] sz) := by
  refine Met.ofW (cc := cX5_reversed) (maxL := 4) (ret := (some .int)) (by decide) rfl ?_
  intro p e s m args below meth c s₁ B hml hv
  obtain ⟨rfl, hsz, hP, hK, hD0, hE⟩ := hv
  have hx := B.exec
  have hb := B.bytes
  have hr := B.returns
  have hts := atoms_spec (ws := wsX5_reversed) B.pre
  have hown : s.vm.findClass RX5 = some m.cls := findClass_of_methodNamed B.named
  have hlocks := B.notSynchronized
  subst hsz
  have hD := hD0.self (sz := s.heap.size)
  generalize hAe : va_A [(h0, .inr (5, [.ref tt, .ref rd, .ref nw, .ref th, .ref kp, .ref sh, .ref tu, .int 0])), (sh, .inr (2, [.ref qn, .ref qo, .ref ql])), (qo, .inl (G.2.1, 4, .inl (gFl (-1) (fun _ => 0) 4)))] s.heap.size = A at hD hE ⊢
  have hA : ∀ q : Nat, s.heap.size ≤ q → A q := fun q h => by rw [← hAe]; exact Or.inr h
  have hS : va_S A s.heap s.heap [] := va_S.rf
  have hP : va_P G.1 vwCl [(h0, .inr (5, [.ref tt, .ref rd, .ref nw, .ref th, .ref kp, .ref sh, .ref tu, .int 0])), (sh, .inr (2, [.ref qn, .ref qo, .ref ql])), (qo, .inl (G.2.1, 4, .inl (gFl (-1) (fun _ => 0) 4)))] s.heap := hP
  have hD : va_D A [(h0, .inr (5, [.ref tt, .ref rd, .ref nw, .ref th, .ref kp, .ref sh, .ref tu, .int 0])), (sh, .inr (2, [.ref qn, .ref qo, .ref ql])), (qo, .inl (G.2.1, 4, .inl (gFl (-1) (fun _ => 0) 4)))] := hD
  have hl := lv_entry ([.ref h0, .int v0, .int v1]) (n := 4) (Nat.le_of_ble_eq_true rfl)
  rw [lg_entry_eq]
  generalize (lg_sl ([.ref h0, .int v0, .int v1]) ++ List.replicate (4 - (lg_sl ([.ref h0, .int v0, .int v1])).length) Slot.unset).toArray = ls at hl ⊢
  have hl : lv_has ls 4 [(0, .ref h0), (1, .int v0), (2, .int v1)] := hl
  refine lv_aload_n hx hb dX5_reversed_0 rfl (lv_at hl 0 rfl) ?_
  refine lv_iload_n hx hb dX5_reversed_1 rfl (lv_at hl 1 rfl) ?_
  refine lv_iload_n hx hb dX5_reversed_2 rfl (lv_at hl 2 rfl) ?_
  have hPc : va_P G.1 vwCl [(h0, .inr (5, [.ref tt, .ref rd, .ref nw, .ref th, .ref kp, .ref sh, .ref tu, .int 0])), (sh, .inr (2, [.ref qn, .ref qo, .ref ql])), (qo, .inl (G.2.1, 4, .inl (gFl (-1) (fun _ => 0) 4)))] s.heap := hP.sub [0, 1, 2] rfl
  have hDc : va_D A [(h0, .inr (5, [.ref tt, .ref rd, .ref nw, .ref th, .ref kp, .ref sh, .ref tu, .int 0])), (sh, .inr (2, [.ref qn, .ref qo, .ref ql])), (qo, .inl (G.2.1, 4, .inl (gFl (-1) (fun _ => 0) 4)))] := hD.sub [0, 1, 2] (by decide) rfl
  have hFc := va_free (wc := [(h0, .inr (5, [.ref tt, .ref rd, .ref nw, .ref th, .ref kp, .ref sh, .ref tu, .int 0])), (sh, .inr (2, [.ref qn, .ref qo, .ref ql])), (qo, .inl (G.2.1, 4, .inl (gFl (-1) (fun _ => 0) 4)))]) hD hS hA [0, 1, 2] rfl
  refine va_calli (va_runV (As := [.int v0, .int v1]) (rest := []) ⟨hx, hb, hml, hown, hts⟩ (c_X5_refusalOf_0 l G E h0 tt rd nw th kp sh tu qn qo ql v0 v1 s.heap.size) (cwV 2 hts gX5_reversed_X5_refusalOf rfl rfl rfl (by decide +kernel) ⟨Nat.le_of_ble_eq_true rfl, Nat.le_of_ble_eq_true rfl⟩) ⟨gPreE_blind, va_recv hK hPc (ci := 5) (q0 := 0) rfl rfl, fun U hU hW => gPreE_of hU hW hK hPc hDc hE hS hFc⟩ rfl rfl hl.1 rfl (lv_room (Nat.le_of_ble_eq_true rfl)) dX5_reversed_3 ⟨Nat.le_of_ble_eq_true rfl, Nat.le_of_ble_eq_true rfl⟩) hS (fun q _ h => hFc q h) hFc (fun r_1 u t H locs ht hvm w_2 hB hz1 hk1 hS => ?_)
  obtain ⟨hP1, hK1, hD1⟩ := hB
  rw [ht] at hP1
  have hP1 : va_P G.1 vwCl [(h0, .inr (5, [.ref tt, .ref rd, .ref nw, .ref th, .ref kp, .ref sh, .ref tu, .int 0])), (sh, .inr (2, [.ref qn, .ref qo, .ref ql])), (qo, .inl (G.2.1, 4, .inl (gFl (-1) (fun _ => 0) 4)))] H := hP1
  have hD1 : va_D (va_A [(h0, .inr (5, [.ref tt, .ref rd, .ref nw, .ref th, .ref kp, .ref sh, .ref tu, .int 0])), (sh, .inr (2, [.ref qn, .ref qo, .ref ql])), (qo, .inl (G.2.1, 4, .inl (gFl (-1) (fun _ => 0) 4)))] s.heap.size) [(h0, .inr (5, [.ref tt, .ref rd, .ref nw, .ref th, .ref kp, .ref sh, .ref tu, .int 0])), (sh, .inr (2, [.ref qn, .ref qo, .ref ql])), (qo, .inl (G.2.1, 4, .inl (gFl (-1) (fun _ => 0) 4)))] := hD1
  have w_2 : r_1 = (if 0 ≤ v0 ∧ v0 ≤ 3 then -11 else -2) := w_2
  obtain ⟨hP, hD⟩ := va_join (wr := []) (w1 := [(h0, .inr (5, [.ref tt, .ref rd, .ref nw, .ref th, .ref kp, .ref sh, .ref tu, .int 0])), (sh, .inr (2, [.ref qn, .ref qo, .ref ql])), (qo, .inl (G.2.1, 4, .inl (gFl (-1) (fun _ => 0) 4)))]) hP hD [0, 1, 2] [] rfl rfl (by decide) (by decide) hk1 hFc hP1 hD1
  have hP : va_P G.1 vwCl [(h0, .inr (5, [.ref tt, .ref rd, .ref nw, .ref th, .ref kp, .ref sh, .ref tu, .int 0])), (sh, .inr (2, [.ref qn, .ref qo, .ref ql])), (qo, .inl (G.2.1, 4, .inl (gFl (-1) (fun _ => 0) 4)))] H := hP
  have hD : va_D A [(h0, .inr (5, [.ref tt, .ref rd, .ref nw, .ref th, .ref kp, .ref sh, .ref tu, .int 0])), (sh, .inr (2, [.ref qn, .ref qo, .ref ql])), (qo, .inl (G.2.1, 4, .inl (gFl (-1) (fun _ => 0) 4)))] := hD
  have hne : ¬ r_1 = 0 := by rw [w_2]; exact g_ne _
  have hrv := w_2
  refine lv_istore_n (lv' := [(3, .int r_1), (0, .ref h0), (1, .int v0), (2, .int v1)]) hx hb dX5_reversed_6 rfl hl (by decide) rfl (fun ls hl => ?_)
  refine lv_iload_n hx hb dX5_reversed_7 rfl (lv_at hl 0 rfl) ?_
  refine lv_if_eq (tgt := 13) hx hb dX5_reversed_8 (by decide) (fun c_3 => ?_) (fun c_3 => ?_)
  · exact absurd c_3 (hne)
  refine lv_iload_n hx hb dX5_reversed_11 rfl (lv_at hl 0 rfl) ?_
  have hpost : (fun (r : Int32) (u : Unit) => match u with | _ => r = (if 0 ≤ v0 ∧ v0 ≤ 3 then -11 else -2)) r_1 () := hrv
  exact W.iret (v := r_1) hx hb hr (fun t ht hW => ⟨⟨r_1, (), rfl, hpost, trivial⟩, hS.F ht⟩) hS.2.2 dX5_reversed_12
abbrev q_X5_kinds_0 (G : gG) (E : gS) (h0 tt rd nw th kp sh tu qn qo ql : Nat) (v0 : Int32) (v1 : Int32) (v2 : Int32) (v3 : Int32) (A : Nat → Prop) : Array Value → State → Outcome → State → Prop := va_Qi (fun (r : Int32) (u : Unit) => match u with | _ => r = (if 0 ≤ v0 ∧ v0 ≤ 3 then -11 else -2)) (fun (u : Unit) t => match u with | _ => True) A
set_option maxHeartbeats 4000000 in
set_option maxRecDepth 100000 in
theorem c_X5_kinds_0 (l : Launch) (G : gG) (E : gS) (h0 tt rd nw th kp sh tu qn qo ql : Nat) (v0 : Int32) (v1 : Int32) (v2 : Int32) (v3 : Int32) (sz : Nat) : Met l yX5_kinds wsX5_kinds ({ frames := 4, cells := 0, slots := 0, locals := 89 }) (gPreE G E [.ref h0, .int v0, .int v1, .int v2, .int v3] [(h0, .inr (5, [.ref tt, .ref rd, .ref nw, .ref th, .ref kp, .ref sh, .ref tu, .int 0])), (sh, .inr (2, [.ref qn, .ref qo, .ref ql])), (qo, .inl (G.2.1, 4, .inl (gFl (-1) (fun _ => 0) 4)))] sz) (q_X5_kinds_0 G E h0 tt rd nw th kp sh tu qn qo ql v0 v1 v2 v3 (va_A [(h0, .inr (5, [.ref tt, .ref rd, .ref nw, .ref th, .ref kp, .ref sh, .ref tu, .int 0])), (sh, .inr (2, [.ref qn, .ref qo, .ref ql])), (qo, .inl (G.2.1, 4, .inl (gFl (-1) (fun _ => 0) 4)))] sz)) 0 0 (va_A [(h0, .inr (5, [.ref tt, .ref rd, .ref nw, .ref th, .ref kp, .ref sh, .ref tu, .int 0])), (sh, .inr (2, [.ref qn, .ref qo, .ref ql])), (qo, .inl (G.2.1, 4, .inl (gFl (-1) (fun _ => 0) 4)))] sz) := by
  refine Met.ofW (cc := cX5_kinds) (maxL := 10) (ret := (some .int)) (by decide) rfl ?_
  intro p e s m args below meth c s₁ B hml hv
  obtain ⟨rfl, hsz, hP, hK, hD0, hE⟩ := hv
  have hx := B.exec
  have hb := B.bytes
  have hr := B.returns
  have hts := atoms_spec (ws := wsX5_kinds) B.pre
  have hown : s.vm.findClass RX5 = some m.cls := findClass_of_methodNamed B.named
  have hlocks := B.notSynchronized
  subst hsz
  have hD := hD0.self (sz := s.heap.size)
  generalize hAe : va_A [(h0, .inr (5, [.ref tt, .ref rd, .ref nw, .ref th, .ref kp, .ref sh, .ref tu, .int 0])), (sh, .inr (2, [.ref qn, .ref qo, .ref ql])), (qo, .inl (G.2.1, 4, .inl (gFl (-1) (fun _ => 0) 4)))] s.heap.size = A at hD hE ⊢
  have hA : ∀ q : Nat, s.heap.size ≤ q → A q := fun q h => by rw [← hAe]; exact Or.inr h
  have hS : va_S A s.heap s.heap [] := va_S.rf
  have hP : va_P G.1 vwCl [(h0, .inr (5, [.ref tt, .ref rd, .ref nw, .ref th, .ref kp, .ref sh, .ref tu, .int 0])), (sh, .inr (2, [.ref qn, .ref qo, .ref ql])), (qo, .inl (G.2.1, 4, .inl (gFl (-1) (fun _ => 0) 4)))] s.heap := hP
  have hD : va_D A [(h0, .inr (5, [.ref tt, .ref rd, .ref nw, .ref th, .ref kp, .ref sh, .ref tu, .int 0])), (sh, .inr (2, [.ref qn, .ref qo, .ref ql])), (qo, .inl (G.2.1, 4, .inl (gFl (-1) (fun _ => 0) 4)))] := hD
  have hl := lv_entry ([.ref h0, .int v0, .int v1, .int v2, .int v3]) (n := 10) (Nat.le_of_ble_eq_true rfl)
  rw [lg_entry_eq]
  generalize (lg_sl ([.ref h0, .int v0, .int v1, .int v2, .int v3]) ++ List.replicate (10 - (lg_sl ([.ref h0, .int v0, .int v1, .int v2, .int v3])).length) Slot.unset).toArray = ls at hl ⊢
  have hl : lv_has ls 10 [(0, .ref h0), (1, .int v0), (2, .int v1), (3, .int v2), (4, .int v3)] := hl
  refine lv_aload_n hx hb dX5_kinds_0 rfl (lv_at hl 0 rfl) ?_
  refine lv_iload_n hx hb dX5_kinds_1 rfl (lv_at hl 1 rfl) ?_
  refine lv_iload_n hx hb dX5_kinds_2 rfl (lv_at hl 2 rfl) ?_
  have hPc : va_P G.1 vwCl [(h0, .inr (5, [.ref tt, .ref rd, .ref nw, .ref th, .ref kp, .ref sh, .ref tu, .int 0])), (sh, .inr (2, [.ref qn, .ref qo, .ref ql])), (qo, .inl (G.2.1, 4, .inl (gFl (-1) (fun _ => 0) 4)))] s.heap := hP.sub [0, 1, 2] rfl
  have hDc : va_D A [(h0, .inr (5, [.ref tt, .ref rd, .ref nw, .ref th, .ref kp, .ref sh, .ref tu, .int 0])), (sh, .inr (2, [.ref qn, .ref qo, .ref ql])), (qo, .inl (G.2.1, 4, .inl (gFl (-1) (fun _ => 0) 4)))] := hD.sub [0, 1, 2] (by decide) rfl
  have hFc := va_free (wc := [(h0, .inr (5, [.ref tt, .ref rd, .ref nw, .ref th, .ref kp, .ref sh, .ref tu, .int 0])), (sh, .inr (2, [.ref qn, .ref qo, .ref ql])), (qo, .inl (G.2.1, 4, .inl (gFl (-1) (fun _ => 0) 4)))]) hD hS hA [0, 1, 2] rfl
  refine va_calli (va_runV (As := [.int v0, .int v1]) (rest := []) ⟨hx, hb, hml, hown, hts⟩ (c_X5_refusalOf_0 l G E h0 tt rd nw th kp sh tu qn qo ql v0 v1 s.heap.size) (cwV 2 hts gX5_kinds_X5_refusalOf rfl rfl rfl (by decide +kernel) ⟨Nat.le_of_ble_eq_true rfl, Nat.le_of_ble_eq_true rfl⟩) ⟨gPreE_blind, va_recv hK hPc (ci := 5) (q0 := 0) rfl rfl, fun U hU hW => gPreE_of hU hW hK hPc hDc hE hS hFc⟩ rfl rfl hl.1 rfl (lv_room (Nat.le_of_ble_eq_true rfl)) dX5_kinds_3 ⟨Nat.le_of_ble_eq_true rfl, Nat.le_of_ble_eq_true rfl⟩) hS (fun q _ h => hFc q h) hFc (fun r_1 u t H locs ht hvm w_2 hB hz1 hk1 hS => ?_)
  obtain ⟨hP1, hK1, hD1⟩ := hB
  rw [ht] at hP1
  have hP1 : va_P G.1 vwCl [(h0, .inr (5, [.ref tt, .ref rd, .ref nw, .ref th, .ref kp, .ref sh, .ref tu, .int 0])), (sh, .inr (2, [.ref qn, .ref qo, .ref ql])), (qo, .inl (G.2.1, 4, .inl (gFl (-1) (fun _ => 0) 4)))] H := hP1
  have hD1 : va_D (va_A [(h0, .inr (5, [.ref tt, .ref rd, .ref nw, .ref th, .ref kp, .ref sh, .ref tu, .int 0])), (sh, .inr (2, [.ref qn, .ref qo, .ref ql])), (qo, .inl (G.2.1, 4, .inl (gFl (-1) (fun _ => 0) 4)))] s.heap.size) [(h0, .inr (5, [.ref tt, .ref rd, .ref nw, .ref th, .ref kp, .ref sh, .ref tu, .int 0])), (sh, .inr (2, [.ref qn, .ref qo, .ref ql])), (qo, .inl (G.2.1, 4, .inl (gFl (-1) (fun _ => 0) 4)))] := hD1
  have w_2 : r_1 = (if 0 ≤ v0 ∧ v0 ≤ 3 then -11 else -2) := w_2
  obtain ⟨hP, hD⟩ := va_join (wr := []) (w1 := [(h0, .inr (5, [.ref tt, .ref rd, .ref nw, .ref th, .ref kp, .ref sh, .ref tu, .int 0])), (sh, .inr (2, [.ref qn, .ref qo, .ref ql])), (qo, .inl (G.2.1, 4, .inl (gFl (-1) (fun _ => 0) 4)))]) hP hD [0, 1, 2] [] rfl rfl (by decide) (by decide) hk1 hFc hP1 hD1
  have hP : va_P G.1 vwCl [(h0, .inr (5, [.ref tt, .ref rd, .ref nw, .ref th, .ref kp, .ref sh, .ref tu, .int 0])), (sh, .inr (2, [.ref qn, .ref qo, .ref ql])), (qo, .inl (G.2.1, 4, .inl (gFl (-1) (fun _ => 0) 4)))] H := hP
  have hD : va_D A [(h0, .inr (5, [.ref tt, .ref rd, .ref nw, .ref th, .ref kp, .ref sh, .ref tu, .int 0])), (sh, .inr (2, [.ref qn, .ref qo, .ref ql])), (qo, .inl (G.2.1, 4, .inl (gFl (-1) (fun _ => 0) 4)))] := hD
  have hne : ¬ r_1 = 0 := by rw [w_2]; exact g_ne _
  have hrv := w_2
  refine lv_istore (lv' := [(5, .int r_1), (0, .ref h0), (1, .int v0), (2, .int v1), (3, .int v2), (4, .int v3)]) hx hb dX5_kinds_6 hl (by decide) rfl (fun ls hl => ?_)
  refine lv_iload hx hb dX5_kinds_8 (lv_at hl 0 rfl) ?_
  refine lv_if_eq (tgt := 16) hx hb dX5_kinds_10 (by decide) (fun c_3 => ?_) (fun c_3 => ?_)
  · exact absurd c_3 (hne)
  refine lv_iload hx hb dX5_kinds_13 (lv_at hl 0 rfl) ?_
  have hpost : (fun (r : Int32) (u : Unit) => match u with | _ => r = (if 0 ≤ v0 ∧ v0 ≤ 3 then -11 else -2)) r_1 () := hrv
  exact W.iret (v := r_1) hx hb hr (fun t ht hW => ⟨⟨r_1, (), rfl, hpost, trivial⟩, hS.F ht⟩) hS.2.2 dX5_kinds_15
abbrev q_X5_soled_0 (G : gG) (E : gS) (h0 tt rd nw th kp sh tu qn qo ql : Nat) (v0 : Int32) (v1 : Int32) (A : Nat → Prop) : Array Value → State → Outcome → State → Prop := va_Qi (fun (r : Int32) (u : Unit) => match u with | _ => r = (if 0 ≤ v0 ∧ v0 ≤ 3 then -11 else -2)) (fun (u : Unit) t => match u with | _ => True) A
set_option maxHeartbeats 4000000 in
set_option maxRecDepth 100000 in
theorem c_X5_soled_0 (l : Launch) (G : gG) (E : gS) (h0 tt rd nw th kp sh tu qn qo ql : Nat) (v0 : Int32) (v1 : Int32) (sz : Nat) : Met l yX5_soled wsX5_soled ({ frames := 4, cells := 0, slots := 0, locals := 89 }) (gPreE G E [.ref h0, .int v0, .int v1] [(h0, .inr (5, [.ref tt, .ref rd, .ref nw, .ref th, .ref kp, .ref sh, .ref tu, .int 0])), (sh, .inr (2, [.ref qn, .ref qo, .ref ql])), (qo, .inl (G.2.1, 4, .inl (gFl (-1) (fun _ => 0) 4)))] sz) (q_X5_soled_0 G E h0 tt rd nw th kp sh tu qn qo ql v0 v1 (va_A [(h0, .inr (5, [.ref tt, .ref rd, .ref nw, .ref th, .ref kp, .ref sh, .ref tu, .int 0])), (sh, .inr (2, [.ref qn, .ref qo, .ref ql])), (qo, .inl (G.2.1, 4, .inl (gFl (-1) (fun _ => 0) 4)))] sz)) 0 0 (va_A [(h0, .inr (5, [.ref tt, .ref rd, .ref nw, .ref th, .ref kp, .ref sh, .ref tu, .int 0])), (sh, .inr (2, [.ref qn, .ref qo, .ref ql])), (qo, .inl (G.2.1, 4, .inl (gFl (-1) (fun _ => 0) 4)))] sz) := by
  refine Met.ofW (cc := cX5_soled) (maxL := 6) (ret := (some .int)) (by decide) rfl ?_
  intro p e s m args below meth c s₁ B hml hv
  obtain ⟨rfl, hsz, hP, hK, hD0, hE⟩ := hv
  have hx := B.exec
  have hb := B.bytes
  have hr := B.returns
  have hts := atoms_spec (ws := wsX5_soled) B.pre
  have hown : s.vm.findClass RX5 = some m.cls := findClass_of_methodNamed B.named
  have hlocks := B.notSynchronized
  subst hsz
  have hD := hD0.self (sz := s.heap.size)
  generalize hAe : va_A [(h0, .inr (5, [.ref tt, .ref rd, .ref nw, .ref th, .ref kp, .ref sh, .ref tu, .int 0])), (sh, .inr (2, [.ref qn, .ref qo, .ref ql])), (qo, .inl (G.2.1, 4, .inl (gFl (-1) (fun _ => 0) 4)))] s.heap.size = A at hD hE ⊢
  have hA : ∀ q : Nat, s.heap.size ≤ q → A q := fun q h => by rw [← hAe]; exact Or.inr h
  have hS : va_S A s.heap s.heap [] := va_S.rf
  have hP : va_P G.1 vwCl [(h0, .inr (5, [.ref tt, .ref rd, .ref nw, .ref th, .ref kp, .ref sh, .ref tu, .int 0])), (sh, .inr (2, [.ref qn, .ref qo, .ref ql])), (qo, .inl (G.2.1, 4, .inl (gFl (-1) (fun _ => 0) 4)))] s.heap := hP
  have hD : va_D A [(h0, .inr (5, [.ref tt, .ref rd, .ref nw, .ref th, .ref kp, .ref sh, .ref tu, .int 0])), (sh, .inr (2, [.ref qn, .ref qo, .ref ql])), (qo, .inl (G.2.1, 4, .inl (gFl (-1) (fun _ => 0) 4)))] := hD
  have hl := lv_entry ([.ref h0, .int v0, .int v1]) (n := 6) (Nat.le_of_ble_eq_true rfl)
  rw [lg_entry_eq]
  generalize (lg_sl ([.ref h0, .int v0, .int v1]) ++ List.replicate (6 - (lg_sl ([.ref h0, .int v0, .int v1])).length) Slot.unset).toArray = ls at hl ⊢
  have hl : lv_has ls 6 [(0, .ref h0), (1, .int v0), (2, .int v1)] := hl
  refine lv_aload_n hx hb dX5_soled_0 rfl (lv_at hl 0 rfl) ?_
  refine lv_iload_n hx hb dX5_soled_1 rfl (lv_at hl 1 rfl) ?_
  refine lv_iload_n hx hb dX5_soled_2 rfl (lv_at hl 2 rfl) ?_
  have hPc : va_P G.1 vwCl [(h0, .inr (5, [.ref tt, .ref rd, .ref nw, .ref th, .ref kp, .ref sh, .ref tu, .int 0])), (sh, .inr (2, [.ref qn, .ref qo, .ref ql])), (qo, .inl (G.2.1, 4, .inl (gFl (-1) (fun _ => 0) 4)))] s.heap := hP.sub [0, 1, 2] rfl
  have hDc : va_D A [(h0, .inr (5, [.ref tt, .ref rd, .ref nw, .ref th, .ref kp, .ref sh, .ref tu, .int 0])), (sh, .inr (2, [.ref qn, .ref qo, .ref ql])), (qo, .inl (G.2.1, 4, .inl (gFl (-1) (fun _ => 0) 4)))] := hD.sub [0, 1, 2] (by decide) rfl
  have hFc := va_free (wc := [(h0, .inr (5, [.ref tt, .ref rd, .ref nw, .ref th, .ref kp, .ref sh, .ref tu, .int 0])), (sh, .inr (2, [.ref qn, .ref qo, .ref ql])), (qo, .inl (G.2.1, 4, .inl (gFl (-1) (fun _ => 0) 4)))]) hD hS hA [0, 1, 2] rfl
  refine va_calli (va_runV (As := [.int v0, .int v1]) (rest := []) ⟨hx, hb, hml, hown, hts⟩ (c_X5_refusalOf_0 l G E h0 tt rd nw th kp sh tu qn qo ql v0 v1 s.heap.size) (cwV 2 hts gX5_soled_X5_refusalOf rfl rfl rfl (by decide +kernel) ⟨Nat.le_of_ble_eq_true rfl, Nat.le_of_ble_eq_true rfl⟩) ⟨gPreE_blind, va_recv hK hPc (ci := 5) (q0 := 0) rfl rfl, fun U hU hW => gPreE_of hU hW hK hPc hDc hE hS hFc⟩ rfl rfl hl.1 rfl (lv_room (Nat.le_of_ble_eq_true rfl)) dX5_soled_3 ⟨Nat.le_of_ble_eq_true rfl, Nat.le_of_ble_eq_true rfl⟩) hS (fun q _ h => hFc q h) hFc (fun r_1 u t H locs ht hvm w_2 hB hz1 hk1 hS => ?_)
  obtain ⟨hP1, hK1, hD1⟩ := hB
  rw [ht] at hP1
  have hP1 : va_P G.1 vwCl [(h0, .inr (5, [.ref tt, .ref rd, .ref nw, .ref th, .ref kp, .ref sh, .ref tu, .int 0])), (sh, .inr (2, [.ref qn, .ref qo, .ref ql])), (qo, .inl (G.2.1, 4, .inl (gFl (-1) (fun _ => 0) 4)))] H := hP1
  have hD1 : va_D (va_A [(h0, .inr (5, [.ref tt, .ref rd, .ref nw, .ref th, .ref kp, .ref sh, .ref tu, .int 0])), (sh, .inr (2, [.ref qn, .ref qo, .ref ql])), (qo, .inl (G.2.1, 4, .inl (gFl (-1) (fun _ => 0) 4)))] s.heap.size) [(h0, .inr (5, [.ref tt, .ref rd, .ref nw, .ref th, .ref kp, .ref sh, .ref tu, .int 0])), (sh, .inr (2, [.ref qn, .ref qo, .ref ql])), (qo, .inl (G.2.1, 4, .inl (gFl (-1) (fun _ => 0) 4)))] := hD1
  have w_2 : r_1 = (if 0 ≤ v0 ∧ v0 ≤ 3 then -11 else -2) := w_2
  obtain ⟨hP, hD⟩ := va_join (wr := []) (w1 := [(h0, .inr (5, [.ref tt, .ref rd, .ref nw, .ref th, .ref kp, .ref sh, .ref tu, .int 0])), (sh, .inr (2, [.ref qn, .ref qo, .ref ql])), (qo, .inl (G.2.1, 4, .inl (gFl (-1) (fun _ => 0) 4)))]) hP hD [0, 1, 2] [] rfl rfl (by decide) (by decide) hk1 hFc hP1 hD1
  have hP : va_P G.1 vwCl [(h0, .inr (5, [.ref tt, .ref rd, .ref nw, .ref th, .ref kp, .ref sh, .ref tu, .int 0])), (sh, .inr (2, [.ref qn, .ref qo, .ref ql])), (qo, .inl (G.2.1, 4, .inl (gFl (-1) (fun _ => 0) 4)))] H := hP
  have hD : va_D A [(h0, .inr (5, [.ref tt, .ref rd, .ref nw, .ref th, .ref kp, .ref sh, .ref tu, .int 0])), (sh, .inr (2, [.ref qn, .ref qo, .ref ql])), (qo, .inl (G.2.1, 4, .inl (gFl (-1) (fun _ => 0) 4)))] := hD
  have hne : ¬ r_1 = 0 := by rw [w_2]; exact g_ne _
  have hrv := w_2
  refine lv_istore_n (lv' := [(3, .int r_1), (0, .ref h0), (1, .int v0), (2, .int v1)]) hx hb dX5_soled_6 rfl hl (by decide) rfl (fun ls hl => ?_)
  refine lv_iload_n hx hb dX5_soled_7 rfl (lv_at hl 0 rfl) ?_
  refine lv_if_eq (tgt := 13) hx hb dX5_soled_8 (by decide) (fun c_3 => ?_) (fun c_3 => ?_)
  · exact absurd c_3 (hne)
  refine lv_iload_n hx hb dX5_soled_11 rfl (lv_at hl 0 rfl) ?_
  have hpost : (fun (r : Int32) (u : Unit) => match u with | _ => r = (if 0 ≤ v0 ∧ v0 ≤ 3 then -11 else -2)) r_1 () := hrv
  exact W.iret (v := r_1) hx hb hr (fun t ht hW => ⟨⟨r_1, (), rfl, hpost, trivial⟩, hS.F ht⟩) hS.2.2 dX5_soled_12
abbrev q_X5_sizes_0 (G : gG) (E : gS) (h0 tt rd nw th kp sh tu qn qo ql : Nat) (v0 : Int32) (v1 : Int32) (v2 : Int32) (v3 : Int32) (A : Nat → Prop) : Array Value → State → Outcome → State → Prop := va_Qi (fun (r : Int32) (u : Unit) => match u with | _ => r = (if 0 ≤ v0 ∧ v0 ≤ 3 then -11 else -2)) (fun (u : Unit) t => match u with | _ => True) A
set_option maxHeartbeats 4000000 in
set_option maxRecDepth 100000 in
theorem c_X5_sizes_0 (l : Launch) (G : gG) (E : gS) (h0 tt rd nw th kp sh tu qn qo ql : Nat) (v0 : Int32) (v1 : Int32) (v2 : Int32) (v3 : Int32) (sz : Nat) : Met l yX5_sizes wsX5_sizes ({ frames := 4, cells := 0, slots := 0, locals := 89 }) (gPreE G E [.ref h0, .int v0, .int v1, .int v2, .int v3] [(h0, .inr (5, [.ref tt, .ref rd, .ref nw, .ref th, .ref kp, .ref sh, .ref tu, .int 0])), (sh, .inr (2, [.ref qn, .ref qo, .ref ql])), (qo, .inl (G.2.1, 4, .inl (gFl (-1) (fun _ => 0) 4)))] sz) (q_X5_sizes_0 G E h0 tt rd nw th kp sh tu qn qo ql v0 v1 v2 v3 (va_A [(h0, .inr (5, [.ref tt, .ref rd, .ref nw, .ref th, .ref kp, .ref sh, .ref tu, .int 0])), (sh, .inr (2, [.ref qn, .ref qo, .ref ql])), (qo, .inl (G.2.1, 4, .inl (gFl (-1) (fun _ => 0) 4)))] sz)) 0 0 (va_A [(h0, .inr (5, [.ref tt, .ref rd, .ref nw, .ref th, .ref kp, .ref sh, .ref tu, .int 0])), (sh, .inr (2, [.ref qn, .ref qo, .ref ql])), (qo, .inl (G.2.1, 4, .inl (gFl (-1) (fun _ => 0) 4)))] sz) := by
  refine Met.ofW (cc := cX5_sizes) (maxL := 10) (ret := (some .int)) (by decide) rfl ?_
  intro p e s m args below meth c s₁ B hml hv
  obtain ⟨rfl, hsz, hP, hK, hD0, hE⟩ := hv
  have hx := B.exec
  have hb := B.bytes
  have hr := B.returns
  have hts := atoms_spec (ws := wsX5_sizes) B.pre
  have hown : s.vm.findClass RX5 = some m.cls := findClass_of_methodNamed B.named
  have hlocks := B.notSynchronized
  subst hsz
  have hD := hD0.self (sz := s.heap.size)
  generalize hAe : va_A [(h0, .inr (5, [.ref tt, .ref rd, .ref nw, .ref th, .ref kp, .ref sh, .ref tu, .int 0])), (sh, .inr (2, [.ref qn, .ref qo, .ref ql])), (qo, .inl (G.2.1, 4, .inl (gFl (-1) (fun _ => 0) 4)))] s.heap.size = A at hD hE ⊢
  have hA : ∀ q : Nat, s.heap.size ≤ q → A q := fun q h => by rw [← hAe]; exact Or.inr h
  have hS : va_S A s.heap s.heap [] := va_S.rf
  have hP : va_P G.1 vwCl [(h0, .inr (5, [.ref tt, .ref rd, .ref nw, .ref th, .ref kp, .ref sh, .ref tu, .int 0])), (sh, .inr (2, [.ref qn, .ref qo, .ref ql])), (qo, .inl (G.2.1, 4, .inl (gFl (-1) (fun _ => 0) 4)))] s.heap := hP
  have hD : va_D A [(h0, .inr (5, [.ref tt, .ref rd, .ref nw, .ref th, .ref kp, .ref sh, .ref tu, .int 0])), (sh, .inr (2, [.ref qn, .ref qo, .ref ql])), (qo, .inl (G.2.1, 4, .inl (gFl (-1) (fun _ => 0) 4)))] := hD
  have hl := lv_entry ([.ref h0, .int v0, .int v1, .int v2, .int v3]) (n := 10) (Nat.le_of_ble_eq_true rfl)
  rw [lg_entry_eq]
  generalize (lg_sl ([.ref h0, .int v0, .int v1, .int v2, .int v3]) ++ List.replicate (10 - (lg_sl ([.ref h0, .int v0, .int v1, .int v2, .int v3])).length) Slot.unset).toArray = ls at hl ⊢
  have hl : lv_has ls 10 [(0, .ref h0), (1, .int v0), (2, .int v1), (3, .int v2), (4, .int v3)] := hl
  refine lv_aload_n hx hb dX5_sizes_0 rfl (lv_at hl 0 rfl) ?_
  refine lv_iload_n hx hb dX5_sizes_1 rfl (lv_at hl 1 rfl) ?_
  refine lv_iload_n hx hb dX5_sizes_2 rfl (lv_at hl 2 rfl) ?_
  have hPc : va_P G.1 vwCl [(h0, .inr (5, [.ref tt, .ref rd, .ref nw, .ref th, .ref kp, .ref sh, .ref tu, .int 0])), (sh, .inr (2, [.ref qn, .ref qo, .ref ql])), (qo, .inl (G.2.1, 4, .inl (gFl (-1) (fun _ => 0) 4)))] s.heap := hP.sub [0, 1, 2] rfl
  have hDc : va_D A [(h0, .inr (5, [.ref tt, .ref rd, .ref nw, .ref th, .ref kp, .ref sh, .ref tu, .int 0])), (sh, .inr (2, [.ref qn, .ref qo, .ref ql])), (qo, .inl (G.2.1, 4, .inl (gFl (-1) (fun _ => 0) 4)))] := hD.sub [0, 1, 2] (by decide) rfl
  have hFc := va_free (wc := [(h0, .inr (5, [.ref tt, .ref rd, .ref nw, .ref th, .ref kp, .ref sh, .ref tu, .int 0])), (sh, .inr (2, [.ref qn, .ref qo, .ref ql])), (qo, .inl (G.2.1, 4, .inl (gFl (-1) (fun _ => 0) 4)))]) hD hS hA [0, 1, 2] rfl
  refine va_calli (va_runV (As := [.int v0, .int v1]) (rest := []) ⟨hx, hb, hml, hown, hts⟩ (c_X5_refusalOf_0 l G E h0 tt rd nw th kp sh tu qn qo ql v0 v1 s.heap.size) (cwV 2 hts gX5_sizes_X5_refusalOf rfl rfl rfl (by decide +kernel) ⟨Nat.le_of_ble_eq_true rfl, Nat.le_of_ble_eq_true rfl⟩) ⟨gPreE_blind, va_recv hK hPc (ci := 5) (q0 := 0) rfl rfl, fun U hU hW => gPreE_of hU hW hK hPc hDc hE hS hFc⟩ rfl rfl hl.1 rfl (lv_room (Nat.le_of_ble_eq_true rfl)) dX5_sizes_3 ⟨Nat.le_of_ble_eq_true rfl, Nat.le_of_ble_eq_true rfl⟩) hS (fun q _ h => hFc q h) hFc (fun r_1 u t H locs ht hvm w_2 hB hz1 hk1 hS => ?_)
  obtain ⟨hP1, hK1, hD1⟩ := hB
  rw [ht] at hP1
  have hP1 : va_P G.1 vwCl [(h0, .inr (5, [.ref tt, .ref rd, .ref nw, .ref th, .ref kp, .ref sh, .ref tu, .int 0])), (sh, .inr (2, [.ref qn, .ref qo, .ref ql])), (qo, .inl (G.2.1, 4, .inl (gFl (-1) (fun _ => 0) 4)))] H := hP1
  have hD1 : va_D (va_A [(h0, .inr (5, [.ref tt, .ref rd, .ref nw, .ref th, .ref kp, .ref sh, .ref tu, .int 0])), (sh, .inr (2, [.ref qn, .ref qo, .ref ql])), (qo, .inl (G.2.1, 4, .inl (gFl (-1) (fun _ => 0) 4)))] s.heap.size) [(h0, .inr (5, [.ref tt, .ref rd, .ref nw, .ref th, .ref kp, .ref sh, .ref tu, .int 0])), (sh, .inr (2, [.ref qn, .ref qo, .ref ql])), (qo, .inl (G.2.1, 4, .inl (gFl (-1) (fun _ => 0) 4)))] := hD1
  have w_2 : r_1 = (if 0 ≤ v0 ∧ v0 ≤ 3 then -11 else -2) := w_2
  obtain ⟨hP, hD⟩ := va_join (wr := []) (w1 := [(h0, .inr (5, [.ref tt, .ref rd, .ref nw, .ref th, .ref kp, .ref sh, .ref tu, .int 0])), (sh, .inr (2, [.ref qn, .ref qo, .ref ql])), (qo, .inl (G.2.1, 4, .inl (gFl (-1) (fun _ => 0) 4)))]) hP hD [0, 1, 2] [] rfl rfl (by decide) (by decide) hk1 hFc hP1 hD1
  have hP : va_P G.1 vwCl [(h0, .inr (5, [.ref tt, .ref rd, .ref nw, .ref th, .ref kp, .ref sh, .ref tu, .int 0])), (sh, .inr (2, [.ref qn, .ref qo, .ref ql])), (qo, .inl (G.2.1, 4, .inl (gFl (-1) (fun _ => 0) 4)))] H := hP
  have hD : va_D A [(h0, .inr (5, [.ref tt, .ref rd, .ref nw, .ref th, .ref kp, .ref sh, .ref tu, .int 0])), (sh, .inr (2, [.ref qn, .ref qo, .ref ql])), (qo, .inl (G.2.1, 4, .inl (gFl (-1) (fun _ => 0) 4)))] := hD
  have hne : ¬ r_1 = 0 := by rw [w_2]; exact g_ne _
  have hrv := w_2
  refine lv_istore (lv' := [(5, .int r_1), (0, .ref h0), (1, .int v0), (2, .int v1), (3, .int v2), (4, .int v3)]) hx hb dX5_sizes_6 hl (by decide) rfl (fun ls hl => ?_)
  refine lv_iload hx hb dX5_sizes_8 (lv_at hl 0 rfl) ?_
  refine lv_if_eq (tgt := 16) hx hb dX5_sizes_10 (by decide) (fun c_3 => ?_) (fun c_3 => ?_)
  · exact absurd c_3 (hne)
  refine lv_iload hx hb dX5_sizes_13 (lv_at hl 0 rfl) ?_
  have hpost : (fun (r : Int32) (u : Unit) => match u with | _ => r = (if 0 ≤ v0 ∧ v0 ≤ 3 then -11 else -2)) r_1 () := hrv
  exact W.iret (v := r_1) hx hb hr (fun t ht hW => ⟨⟨r_1, (), rfl, hpost, trivial⟩, hS.F ht⟩) hS.2.2 dX5_sizes_15
abbrev q_X5_whose_0 (G : gG) (E : gS) (h0 tt rd nw th kp sh tu qn qo ql : Nat) (v0 : Int32) (A : Nat → Prop) : Array Value → State → Outcome → State → Prop := va_Qi (fun (r : Int32) (u : Unit) => match u with | _ => r = (if 0 ≤ v0 ∧ v0 ≤ 3 then -11 else -2)) (fun (u : Unit) t => match u with | _ => True) A
set_option maxHeartbeats 4000000 in
set_option maxRecDepth 100000 in
theorem c_X5_whose_0 (l : Launch) (G : gG) (E : gS) (h0 tt rd nw th kp sh tu qn qo ql : Nat) (v0 : Int32) (sz : Nat) : Met l yX5_whose wsX5_whose ({ frames := 3, cells := 0, slots := 0, locals := 66 }) (gPreE G E [.ref h0, .int v0] [(h0, .inr (5, [.ref tt, .ref rd, .ref nw, .ref th, .ref kp, .ref sh, .ref tu, .int 0])), (sh, .inr (2, [.ref qn, .ref qo, .ref ql])), (qo, .inl (G.2.1, 4, .inl (gFl (-1) (fun _ => 0) 4)))] sz) (q_X5_whose_0 G E h0 tt rd nw th kp sh tu qn qo ql v0 (va_A [(h0, .inr (5, [.ref tt, .ref rd, .ref nw, .ref th, .ref kp, .ref sh, .ref tu, .int 0])), (sh, .inr (2, [.ref qn, .ref qo, .ref ql])), (qo, .inl (G.2.1, 4, .inl (gFl (-1) (fun _ => 0) 4)))] sz)) 0 0 (va_A [(h0, .inr (5, [.ref tt, .ref rd, .ref nw, .ref th, .ref kp, .ref sh, .ref tu, .int 0])), (sh, .inr (2, [.ref qn, .ref qo, .ref ql])), (qo, .inl (G.2.1, 4, .inl (gFl (-1) (fun _ => 0) 4)))] sz) := by
  refine Met.ofW (cc := cX5_whose) (maxL := 5) (ret := (some .int)) (by decide) rfl ?_
  intro p e s m args below meth c s₁ B hml hv
  obtain ⟨rfl, hsz, hP, hK, hD0, hE⟩ := hv
  have hx := B.exec
  have hb := B.bytes
  have hr := B.returns
  have hts := atoms_spec (ws := wsX5_whose) B.pre
  have hown : s.vm.findClass RX5 = some m.cls := findClass_of_methodNamed B.named
  have hlocks := B.notSynchronized
  subst hsz
  have hD := hD0.self (sz := s.heap.size)
  generalize hAe : va_A [(h0, .inr (5, [.ref tt, .ref rd, .ref nw, .ref th, .ref kp, .ref sh, .ref tu, .int 0])), (sh, .inr (2, [.ref qn, .ref qo, .ref ql])), (qo, .inl (G.2.1, 4, .inl (gFl (-1) (fun _ => 0) 4)))] s.heap.size = A at hD hE ⊢
  have hA : ∀ q : Nat, s.heap.size ≤ q → A q := fun q h => by rw [← hAe]; exact Or.inr h
  have hS : va_S A s.heap s.heap [] := va_S.rf
  have hP : va_P G.1 vwCl [(h0, .inr (5, [.ref tt, .ref rd, .ref nw, .ref th, .ref kp, .ref sh, .ref tu, .int 0])), (sh, .inr (2, [.ref qn, .ref qo, .ref ql])), (qo, .inl (G.2.1, 4, .inl (gFl (-1) (fun _ => 0) 4)))] s.heap := hP
  have hD : va_D A [(h0, .inr (5, [.ref tt, .ref rd, .ref nw, .ref th, .ref kp, .ref sh, .ref tu, .int 0])), (sh, .inr (2, [.ref qn, .ref qo, .ref ql])), (qo, .inl (G.2.1, 4, .inl (gFl (-1) (fun _ => 0) 4)))] := hD
  have hl := lv_entry ([.ref h0, .int v0]) (n := 5) (Nat.le_of_ble_eq_true rfl)
  rw [lg_entry_eq]
  generalize (lg_sl ([.ref h0, .int v0]) ++ List.replicate (5 - (lg_sl ([.ref h0, .int v0])).length) Slot.unset).toArray = ls at hl ⊢
  have hl : lv_has ls 5 [(0, .ref h0), (1, .int v0)] := hl
  refine lv_aload_n hx hb dX5_whose_0 rfl (lv_at hl 0 rfl) ?_
  refine lv_iload_n hx hb dX5_whose_1 rfl (lv_at hl 1 rfl) ?_
  have hPc : va_P G.1 vwCl [(h0, .inr (5, [.ref tt, .ref rd, .ref nw, .ref th, .ref kp, .ref sh, .ref tu, .int 0])), (sh, .inr (2, [.ref qn, .ref qo, .ref ql])), (qo, .inl (G.2.1, 4, .inl (gFl (-1) (fun _ => 0) 4)))] s.heap := hP.sub [0, 1, 2] rfl
  have hDc : va_D A [(h0, .inr (5, [.ref tt, .ref rd, .ref nw, .ref th, .ref kp, .ref sh, .ref tu, .int 0])), (sh, .inr (2, [.ref qn, .ref qo, .ref ql])), (qo, .inl (G.2.1, 4, .inl (gFl (-1) (fun _ => 0) 4)))] := hD.sub [0, 1, 2] (by decide) rfl
  have hFc := va_free (wc := [(h0, .inr (5, [.ref tt, .ref rd, .ref nw, .ref th, .ref kp, .ref sh, .ref tu, .int 0])), (sh, .inr (2, [.ref qn, .ref qo, .ref ql])), (qo, .inl (G.2.1, 4, .inl (gFl (-1) (fun _ => 0) 4)))]) hD hS hA [0, 1, 2] rfl
  refine va_calli (va_runV (As := [.int v0]) (rest := []) ⟨hx, hb, hml, hown, hts⟩ (c_X5_refusalOfSheet_0 l G E h0 tt rd nw th kp sh tu qn qo ql v0 s.heap.size) (cwV 1 hts gX5_whose_X5_refusalOfSheet rfl rfl rfl (by decide +kernel) ⟨Nat.le_of_ble_eq_true rfl, Nat.le_of_ble_eq_true rfl⟩) ⟨gPreE_blind, va_recv hK hPc (ci := 5) (q0 := 0) rfl rfl, fun U hU hW => gPreE_of hU hW hK hPc hDc hE hS hFc⟩ rfl rfl hl.1 rfl (lv_room (Nat.le_of_ble_eq_true rfl)) dX5_whose_2 ⟨Nat.le_of_ble_eq_true rfl, Nat.le_of_ble_eq_true rfl⟩) hS (fun q _ h => hFc q h) hFc (fun r_1 u t H locs ht hvm w_2 hB hz1 hk1 hS => ?_)
  obtain ⟨hP1, hK1, hD1⟩ := hB
  rw [ht] at hP1
  have hP1 : va_P G.1 vwCl [(h0, .inr (5, [.ref tt, .ref rd, .ref nw, .ref th, .ref kp, .ref sh, .ref tu, .int 0])), (sh, .inr (2, [.ref qn, .ref qo, .ref ql])), (qo, .inl (G.2.1, 4, .inl (gFl (-1) (fun _ => 0) 4)))] H := hP1
  have hD1 : va_D (va_A [(h0, .inr (5, [.ref tt, .ref rd, .ref nw, .ref th, .ref kp, .ref sh, .ref tu, .int 0])), (sh, .inr (2, [.ref qn, .ref qo, .ref ql])), (qo, .inl (G.2.1, 4, .inl (gFl (-1) (fun _ => 0) 4)))] s.heap.size) [(h0, .inr (5, [.ref tt, .ref rd, .ref nw, .ref th, .ref kp, .ref sh, .ref tu, .int 0])), (sh, .inr (2, [.ref qn, .ref qo, .ref ql])), (qo, .inl (G.2.1, 4, .inl (gFl (-1) (fun _ => 0) 4)))] := hD1
  have w_2 : r_1 = (if 0 ≤ v0 ∧ v0 ≤ 3 then -11 else -2) := w_2
  obtain ⟨hP, hD⟩ := va_join (wr := []) (w1 := [(h0, .inr (5, [.ref tt, .ref rd, .ref nw, .ref th, .ref kp, .ref sh, .ref tu, .int 0])), (sh, .inr (2, [.ref qn, .ref qo, .ref ql])), (qo, .inl (G.2.1, 4, .inl (gFl (-1) (fun _ => 0) 4)))]) hP hD [0, 1, 2] [] rfl rfl (by decide) (by decide) hk1 hFc hP1 hD1
  have hP : va_P G.1 vwCl [(h0, .inr (5, [.ref tt, .ref rd, .ref nw, .ref th, .ref kp, .ref sh, .ref tu, .int 0])), (sh, .inr (2, [.ref qn, .ref qo, .ref ql])), (qo, .inl (G.2.1, 4, .inl (gFl (-1) (fun _ => 0) 4)))] H := hP
  have hD : va_D A [(h0, .inr (5, [.ref tt, .ref rd, .ref nw, .ref th, .ref kp, .ref sh, .ref tu, .int 0])), (sh, .inr (2, [.ref qn, .ref qo, .ref ql])), (qo, .inl (G.2.1, 4, .inl (gFl (-1) (fun _ => 0) 4)))] := hD
  have hne : ¬ r_1 = 0 := by rw [w_2]; exact g_ne _
  have hrv := w_2
  refine lv_istore_n (lv' := [(2, .int r_1), (0, .ref h0), (1, .int v0)]) hx hb dX5_whose_5 rfl hl (by decide) rfl (fun ls hl => ?_)
  refine lv_iload_n hx hb dX5_whose_6 rfl (lv_at hl 0 rfl) ?_
  refine lv_if_eq (tgt := 12) hx hb dX5_whose_7 (by decide) (fun c_3 => ?_) (fun c_3 => ?_)
  · exact absurd c_3 (hne)
  refine lv_iload_n hx hb dX5_whose_10 rfl (lv_at hl 0 rfl) ?_
  have hpost : (fun (r : Int32) (u : Unit) => match u with | _ => r = (if 0 ≤ v0 ∧ v0 ≤ 3 then -11 else -2)) r_1 () := hrv
  exact W.iret (v := r_1) hx hb hr (fun t ht hW => ⟨⟨r_1, (), rfl, hpost, trivial⟩, hS.F ht⟩) hS.2.2 dX5_whose_11
abbrev q_X5_laws_0 (G : gG) (E : gS) (h0 tt rd nw th kp sh tu qn qo ql : Nat) (v0 : Int32) (v1 : Int32) (A : Nat → Prop) : Array Value → State → Outcome → State → Prop := va_Qi (fun (r : Int32) (u : Unit) => match u with | _ => r = (if 0 ≤ v0 ∧ v0 ≤ 3 then -11 else -2)) (fun (u : Unit) t => match u with | _ => True) A
set_option maxHeartbeats 4000000 in
set_option maxRecDepth 100000 in
theorem c_X5_laws_0 (l : Launch) (G : gG) (E : gS) (h0 tt rd nw th kp sh tu qn qo ql : Nat) (v0 : Int32) (v1 : Int32) (sz : Nat) : Met l yX5_laws wsX5_laws ({ frames := 4, cells := 0, slots := 0, locals := 89 }) (gPreE G E [.ref h0, .int v0, .int v1] [(h0, .inr (5, [.ref tt, .ref rd, .ref nw, .ref th, .ref kp, .ref sh, .ref tu, .int 0])), (sh, .inr (2, [.ref qn, .ref qo, .ref ql])), (qo, .inl (G.2.1, 4, .inl (gFl (-1) (fun _ => 0) 4)))] sz) (q_X5_laws_0 G E h0 tt rd nw th kp sh tu qn qo ql v0 v1 (va_A [(h0, .inr (5, [.ref tt, .ref rd, .ref nw, .ref th, .ref kp, .ref sh, .ref tu, .int 0])), (sh, .inr (2, [.ref qn, .ref qo, .ref ql])), (qo, .inl (G.2.1, 4, .inl (gFl (-1) (fun _ => 0) 4)))] sz)) 0 0 (va_A [(h0, .inr (5, [.ref tt, .ref rd, .ref nw, .ref th, .ref kp, .ref sh, .ref tu, .int 0])), (sh, .inr (2, [.ref qn, .ref qo, .ref ql])), (qo, .inl (G.2.1, 4, .inl (gFl (-1) (fun _ => 0) 4)))] sz) := by
  refine Met.ofW (cc := cX5_laws) (maxL := 6) (ret := (some .int)) (by decide) rfl ?_
  intro p e s m args below meth c s₁ B hml hv
  obtain ⟨rfl, hsz, hP, hK, hD0, hE⟩ := hv
  have hx := B.exec
  have hb := B.bytes
  have hr := B.returns
  have hts := atoms_spec (ws := wsX5_laws) B.pre
  have hown : s.vm.findClass RX5 = some m.cls := findClass_of_methodNamed B.named
  have hlocks := B.notSynchronized
  subst hsz
  have hD := hD0.self (sz := s.heap.size)
  generalize hAe : va_A [(h0, .inr (5, [.ref tt, .ref rd, .ref nw, .ref th, .ref kp, .ref sh, .ref tu, .int 0])), (sh, .inr (2, [.ref qn, .ref qo, .ref ql])), (qo, .inl (G.2.1, 4, .inl (gFl (-1) (fun _ => 0) 4)))] s.heap.size = A at hD hE ⊢
  have hA : ∀ q : Nat, s.heap.size ≤ q → A q := fun q h => by rw [← hAe]; exact Or.inr h
  have hS : va_S A s.heap s.heap [] := va_S.rf
  have hP : va_P G.1 vwCl [(h0, .inr (5, [.ref tt, .ref rd, .ref nw, .ref th, .ref kp, .ref sh, .ref tu, .int 0])), (sh, .inr (2, [.ref qn, .ref qo, .ref ql])), (qo, .inl (G.2.1, 4, .inl (gFl (-1) (fun _ => 0) 4)))] s.heap := hP
  have hD : va_D A [(h0, .inr (5, [.ref tt, .ref rd, .ref nw, .ref th, .ref kp, .ref sh, .ref tu, .int 0])), (sh, .inr (2, [.ref qn, .ref qo, .ref ql])), (qo, .inl (G.2.1, 4, .inl (gFl (-1) (fun _ => 0) 4)))] := hD
  have hl := lv_entry ([.ref h0, .int v0, .int v1]) (n := 6) (Nat.le_of_ble_eq_true rfl)
  rw [lg_entry_eq]
  generalize (lg_sl ([.ref h0, .int v0, .int v1]) ++ List.replicate (6 - (lg_sl ([.ref h0, .int v0, .int v1])).length) Slot.unset).toArray = ls at hl ⊢
  have hl : lv_has ls 6 [(0, .ref h0), (1, .int v0), (2, .int v1)] := hl
  refine lv_aload_n hx hb dX5_laws_0 rfl (lv_at hl 0 rfl) ?_
  refine lv_iload_n hx hb dX5_laws_1 rfl (lv_at hl 1 rfl) ?_
  refine lv_iload_n hx hb dX5_laws_2 rfl (lv_at hl 2 rfl) ?_
  have hPc : va_P G.1 vwCl [(h0, .inr (5, [.ref tt, .ref rd, .ref nw, .ref th, .ref kp, .ref sh, .ref tu, .int 0])), (sh, .inr (2, [.ref qn, .ref qo, .ref ql])), (qo, .inl (G.2.1, 4, .inl (gFl (-1) (fun _ => 0) 4)))] s.heap := hP.sub [0, 1, 2] rfl
  have hDc : va_D A [(h0, .inr (5, [.ref tt, .ref rd, .ref nw, .ref th, .ref kp, .ref sh, .ref tu, .int 0])), (sh, .inr (2, [.ref qn, .ref qo, .ref ql])), (qo, .inl (G.2.1, 4, .inl (gFl (-1) (fun _ => 0) 4)))] := hD.sub [0, 1, 2] (by decide) rfl
  have hFc := va_free (wc := [(h0, .inr (5, [.ref tt, .ref rd, .ref nw, .ref th, .ref kp, .ref sh, .ref tu, .int 0])), (sh, .inr (2, [.ref qn, .ref qo, .ref ql])), (qo, .inl (G.2.1, 4, .inl (gFl (-1) (fun _ => 0) 4)))]) hD hS hA [0, 1, 2] rfl
  refine va_calli (va_runV (As := [.int v0, .int v1]) (rest := []) ⟨hx, hb, hml, hown, hts⟩ (c_X5_refusalOf_0 l G E h0 tt rd nw th kp sh tu qn qo ql v0 v1 s.heap.size) (cwV 2 hts gX5_laws_X5_refusalOf rfl rfl rfl (by decide +kernel) ⟨Nat.le_of_ble_eq_true rfl, Nat.le_of_ble_eq_true rfl⟩) ⟨gPreE_blind, va_recv hK hPc (ci := 5) (q0 := 0) rfl rfl, fun U hU hW => gPreE_of hU hW hK hPc hDc hE hS hFc⟩ rfl rfl hl.1 rfl (lv_room (Nat.le_of_ble_eq_true rfl)) dX5_laws_3 ⟨Nat.le_of_ble_eq_true rfl, Nat.le_of_ble_eq_true rfl⟩) hS (fun q _ h => hFc q h) hFc (fun r_1 u t H locs ht hvm w_2 hB hz1 hk1 hS => ?_)
  obtain ⟨hP1, hK1, hD1⟩ := hB
  rw [ht] at hP1
  have hP1 : va_P G.1 vwCl [(h0, .inr (5, [.ref tt, .ref rd, .ref nw, .ref th, .ref kp, .ref sh, .ref tu, .int 0])), (sh, .inr (2, [.ref qn, .ref qo, .ref ql])), (qo, .inl (G.2.1, 4, .inl (gFl (-1) (fun _ => 0) 4)))] H := hP1
  have hD1 : va_D (va_A [(h0, .inr (5, [.ref tt, .ref rd, .ref nw, .ref th, .ref kp, .ref sh, .ref tu, .int 0])), (sh, .inr (2, [.ref qn, .ref qo, .ref ql])), (qo, .inl (G.2.1, 4, .inl (gFl (-1) (fun _ => 0) 4)))] s.heap.size) [(h0, .inr (5, [.ref tt, .ref rd, .ref nw, .ref th, .ref kp, .ref sh, .ref tu, .int 0])), (sh, .inr (2, [.ref qn, .ref qo, .ref ql])), (qo, .inl (G.2.1, 4, .inl (gFl (-1) (fun _ => 0) 4)))] := hD1
  have w_2 : r_1 = (if 0 ≤ v0 ∧ v0 ≤ 3 then -11 else -2) := w_2
  obtain ⟨hP, hD⟩ := va_join (wr := []) (w1 := [(h0, .inr (5, [.ref tt, .ref rd, .ref nw, .ref th, .ref kp, .ref sh, .ref tu, .int 0])), (sh, .inr (2, [.ref qn, .ref qo, .ref ql])), (qo, .inl (G.2.1, 4, .inl (gFl (-1) (fun _ => 0) 4)))]) hP hD [0, 1, 2] [] rfl rfl (by decide) (by decide) hk1 hFc hP1 hD1
  have hP : va_P G.1 vwCl [(h0, .inr (5, [.ref tt, .ref rd, .ref nw, .ref th, .ref kp, .ref sh, .ref tu, .int 0])), (sh, .inr (2, [.ref qn, .ref qo, .ref ql])), (qo, .inl (G.2.1, 4, .inl (gFl (-1) (fun _ => 0) 4)))] H := hP
  have hD : va_D A [(h0, .inr (5, [.ref tt, .ref rd, .ref nw, .ref th, .ref kp, .ref sh, .ref tu, .int 0])), (sh, .inr (2, [.ref qn, .ref qo, .ref ql])), (qo, .inl (G.2.1, 4, .inl (gFl (-1) (fun _ => 0) 4)))] := hD
  have hne : ¬ r_1 = 0 := by rw [w_2]; exact g_ne _
  have hrv := w_2
  refine lv_istore_n (lv' := [(3, .int r_1), (0, .ref h0), (1, .int v0), (2, .int v1)]) hx hb dX5_laws_6 rfl hl (by decide) rfl (fun ls hl => ?_)
  refine lv_iload_n hx hb dX5_laws_7 rfl (lv_at hl 0 rfl) ?_
  refine lv_if_eq (tgt := 13) hx hb dX5_laws_8 (by decide) (fun c_3 => ?_) (fun c_3 => ?_)
  · exact absurd c_3 (hne)
  refine lv_iload_n hx hb dX5_laws_11 rfl (lv_at hl 0 rfl) ?_
  have hpost : (fun (r : Int32) (u : Unit) => match u with | _ => r = (if 0 ≤ v0 ∧ v0 ≤ 3 then -11 else -2)) r_1 () := hrv
  exact W.iret (v := r_1) hx hb hr (fun t ht hW => ⟨⟨r_1, (), rfl, hpost, trivial⟩, hS.F ht⟩) hS.2.2 dX5_laws_12
theorem pp_X5_film_0_1 (v0 : Int32) (v1 : Int32) (v2 : Int32) (p_4 : 0 ≤ v0 ∧ v0 ≤ 3) : ((-5) : Int32) = (if 0 ≤ v0 ∧ v0 ≤ 3 then -5 else -2) := by
  first
    | rfl
    | exact bz_pos (by (first | omega | (simp only [Int32.lt_iff_toInt_lt, Int32.le_iff_toInt_le, ← Int32.toInt_inj, Int32.reduceToInt] at * <;> omega)))
    | exact bz_neg (by (first | omega | (simp only [Int32.lt_iff_toInt_lt, Int32.le_iff_toInt_le, ← Int32.toInt_inj, Int32.reduceToInt] at * <;> omega)))
    | ((repeat' split) <;> first | rfl | assumption | (symm; assumption) | (exfalso; (first | omega | (simp only [Int32.lt_iff_toInt_lt, Int32.le_iff_toInt_le, ← Int32.toInt_inj, Int32.reduceToInt] at * <;> omega))))
theorem pp_X5_film_0_2 (v0 : Int32) (v1 : Int32) (v2 : Int32) (n_5 : ¬ (0 ≤ v0 ∧ v0 ≤ 3)) : ((-2) : Int32) = (if 0 ≤ v0 ∧ v0 ≤ 3 then -5 else -2) := by
  first
    | rfl
    | exact bz_pos (by (first | omega | (simp only [Int32.lt_iff_toInt_lt, Int32.le_iff_toInt_le, ← Int32.toInt_inj, Int32.reduceToInt] at * <;> omega)))
    | exact bz_neg (by (first | omega | (simp only [Int32.lt_iff_toInt_lt, Int32.le_iff_toInt_le, ← Int32.toInt_inj, Int32.reduceToInt] at * <;> omega)))
    | ((repeat' split) <;> first | rfl | assumption | (symm; assumption) | (exfalso; (first | omega | (simp only [Int32.lt_iff_toInt_lt, Int32.le_iff_toInt_le, ← Int32.toInt_inj, Int32.reduceToInt] at * <;> omega))))
abbrev q_X5_film_0 (G : gG) (E : gS) (h0 tt rd nw th kp sh tu n1 n2 n3 n4 n5 n6 n7 n8 qn qo ql : Nat) (v0 : Int32) (v1 : Int32) (v2 : Int32) (A : Nat → Prop) : Array Value → State → Outcome → State → Prop := va_Qi (fun (r : Int32) (u : Unit) => match u with | _ => r = (if 0 ≤ v0 ∧ v0 ≤ 3 then -5 else -2)) (fun (u : Unit) t => match u with | _ => True) A
set_option maxHeartbeats 4000000 in
set_option maxRecDepth 100000 in
theorem c_X5_film_0 (l : Launch) (G : gG) (E : gS) (h0 tt rd nw th kp sh tu n1 n2 n3 n4 n5 n6 n7 n8 qn qo ql : Nat) (v0 : Int32) (v1 : Int32) (v2 : Int32) (sz : Nat) : Met l yX5_film wsX5_film ({ frames := 2, cells := 0, slots := 0, locals := 42 }) (gPreE G E [.ref h0, .int v0, .int v1, .int v2] [(h0, .inr (5, [.ref tt, .ref rd, .ref nw, .ref th, .ref kp, .ref sh, .ref tu, .int 0])), (nw, .inr (0, [.ref tt, .ref n1, .ref n2, .ref n3, .ref n4, .ref n5, .ref n6, .ref n7, .ref n8, .int 0, .int 0, .int 0])), (sh, .inr (2, [.ref qn, .ref qo, .ref ql]))] sz) (q_X5_film_0 G E h0 tt rd nw th kp sh tu n1 n2 n3 n4 n5 n6 n7 n8 qn qo ql v0 v1 v2 (va_A [(h0, .inr (5, [.ref tt, .ref rd, .ref nw, .ref th, .ref kp, .ref sh, .ref tu, .int 0])), (nw, .inr (0, [.ref tt, .ref n1, .ref n2, .ref n3, .ref n4, .ref n5, .ref n6, .ref n7, .ref n8, .int 0, .int 0, .int 0])), (sh, .inr (2, [.ref qn, .ref qo, .ref ql]))] sz)) 0 0 (va_A [(h0, .inr (5, [.ref tt, .ref rd, .ref nw, .ref th, .ref kp, .ref sh, .ref tu, .int 0])), (nw, .inr (0, [.ref tt, .ref n1, .ref n2, .ref n3, .ref n4, .ref n5, .ref n6, .ref n7, .ref n8, .int 0, .int 0, .int 0])), (sh, .inr (2, [.ref qn, .ref qo, .ref ql]))] sz) := by
  refine Met.ofW (cc := cX5_film) (maxL := 7) (ret := (some .int)) (by decide) rfl ?_
  intro p e s m args below meth c s₁ B hml hv
  obtain ⟨rfl, hsz, hP, hK, hD0, hE⟩ := hv
  have hx := B.exec
  have hb := B.bytes
  have hr := B.returns
  have hts := atoms_spec (ws := wsX5_film) B.pre
  have hown : s.vm.findClass RX5 = some m.cls := findClass_of_methodNamed B.named
  have hlocks := B.notSynchronized
  subst hsz
  have hD := hD0.self (sz := s.heap.size)
  generalize hAe : va_A [(h0, .inr (5, [.ref tt, .ref rd, .ref nw, .ref th, .ref kp, .ref sh, .ref tu, .int 0])), (nw, .inr (0, [.ref tt, .ref n1, .ref n2, .ref n3, .ref n4, .ref n5, .ref n6, .ref n7, .ref n8, .int 0, .int 0, .int 0])), (sh, .inr (2, [.ref qn, .ref qo, .ref ql]))] s.heap.size = A at hD hE ⊢
  have hA : ∀ q : Nat, s.heap.size ≤ q → A q := fun q h => by rw [← hAe]; exact Or.inr h
  have hS : va_S A s.heap s.heap [] := va_S.rf
  have hP : va_P G.1 vwCl [(h0, .inr (5, [.ref tt, .ref rd, .ref nw, .ref th, .ref kp, .ref sh, .ref tu, .int 0])), (nw, .inr (0, [.ref tt, .ref n1, .ref n2, .ref n3, .ref n4, .ref n5, .ref n6, .ref n7, .ref n8, .int 0, .int 0, .int 0])), (sh, .inr (2, [.ref qn, .ref qo, .ref ql]))] s.heap := hP
  have hD : va_D A [(h0, .inr (5, [.ref tt, .ref rd, .ref nw, .ref th, .ref kp, .ref sh, .ref tu, .int 0])), (nw, .inr (0, [.ref tt, .ref n1, .ref n2, .ref n3, .ref n4, .ref n5, .ref n6, .ref n7, .ref n8, .int 0, .int 0, .int 0])), (sh, .inr (2, [.ref qn, .ref qo, .ref ql]))] := hD
  have hl := lv_entry ([.ref h0, .int v0, .int v1, .int v2]) (n := 7) (Nat.le_of_ble_eq_true rfl)
  rw [lg_entry_eq]
  generalize (lg_sl ([.ref h0, .int v0, .int v1, .int v2]) ++ List.replicate (7 - (lg_sl ([.ref h0, .int v0, .int v1, .int v2])).length) Slot.unset).toArray = ls at hl ⊢
  have hl : lv_has ls 7 [(0, .ref h0), (1, .int v0), (2, .int v1), (3, .int v2)] := hl
  have kf41 := hts (.fieldLink RX5 41 "PebbleInShoe" "rows" "LPebbleInShoe$Sheets;") (by decide +kernel)
  have hiX5 := (by decide +kernel : ∀ w ∈ wsX50, w ∈ wsX5_film)
  have kf28 := hts (.fieldLink RX5 28 "PebbleInShoe" "now" "LPebbleInShoe$Court;") (by decide +kernel)
  refine lv_aload_n hx hb dX5_film_0 rfl (lv_at hl 0 rfl) ?_
  refine va_get (D := G.1) (ci := 5) (v := .ref sh) (C := RX5) (T := TX5) (N := 8) hx hb hts hiX5 hown hK hP 0 rfl rfl 5 (by decide) kf41 (fun _ h9 => h9) rfl dX5_film_1 ?_
  refine lv_iload_n hx hb dX5_film_4 rfl (lv_at hl 1 rfl) ?_
  have hPc : va_P G.1 vwCl [(sh, .inr (2, [.ref qn, .ref qo, .ref ql]))] s.heap := hP.sub [2] rfl
  have hDc : va_D A [(sh, .inr (2, [.ref qn, .ref qo, .ref ql]))] := hD.sub [2] (by decide) rfl
  have hFc := va_free (wc := [(sh, .inr (2, [.ref qn, .ref qo, .ref ql]))]) hD hS hA [2] rfl
  refine va_calli (va_runV (As := [.int v0]) (rest := []) ⟨hx, hb, hml, hown, hts⟩ (c_X2_isSheet l G E sh qn qo ql v0 s.heap.size) (cwV 1 hts gX5_film_X2_isSheet rfl rfl rfl (by decide +kernel) ⟨Nat.le_of_ble_eq_true rfl, Nat.le_of_ble_eq_true rfl⟩) ⟨gPreE_blind, va_recv hK hPc (ci := 2) (q0 := 0) rfl rfl, fun U hU hW => gPreE_of hU hW hK hPc hDc hE hS hFc⟩ rfl rfl hl.1 rfl (lv_room (Nat.le_of_ble_eq_true rfl)) dX5_film_5 ⟨Nat.le_of_ble_eq_true rfl, Nat.le_of_ble_eq_true rfl⟩) hS (fun q _ h => hFc q h) hFc (fun r_1 u t H locs ht hvm w_2 hB hz1 hk1 hS => ?_)
  obtain ⟨hP1, hK1, hD1⟩ := hB
  rw [ht] at hP1
  have hP1 : va_P G.1 vwCl [(sh, .inr (2, [.ref qn, .ref qo, .ref ql]))] H := hP1
  have hD1 : va_D (va_A [(sh, .inr (2, [.ref qn, .ref qo, .ref ql]))] s.heap.size) [(sh, .inr (2, [.ref qn, .ref qo, .ref ql]))] := hD1
  have w_2 : r_1 = bz (decide (0 ≤ v0 ∧ v0 ≤ 3)) := w_2
  obtain ⟨hP, hD⟩ := va_join (wr := [(h0, .inr (5, [.ref tt, .ref rd, .ref nw, .ref th, .ref kp, .ref sh, .ref tu, .int 0])), (nw, .inr (0, [.ref tt, .ref n1, .ref n2, .ref n3, .ref n4, .ref n5, .ref n6, .ref n7, .ref n8, .int 0, .int 0, .int 0]))]) (w1 := [(sh, .inr (2, [.ref qn, .ref qo, .ref ql]))]) hP hD [2] [0, 1] rfl rfl (by decide) (by decide) hk1 hFc hP1 hD1
  have hP : va_P G.1 vwCl [(h0, .inr (5, [.ref tt, .ref rd, .ref nw, .ref th, .ref kp, .ref sh, .ref tu, .int 0])), (nw, .inr (0, [.ref tt, .ref n1, .ref n2, .ref n3, .ref n4, .ref n5, .ref n6, .ref n7, .ref n8, .int 0, .int 0, .int 0])), (sh, .inr (2, [.ref qn, .ref qo, .ref ql]))] H := hP
  have hD : va_D A [(h0, .inr (5, [.ref tt, .ref rd, .ref nw, .ref th, .ref kp, .ref sh, .ref tu, .int 0])), (nw, .inr (0, [.ref tt, .ref n1, .ref n2, .ref n3, .ref n4, .ref n5, .ref n6, .ref n7, .ref n8, .int 0, .int 0, .int 0])), (sh, .inr (2, [.ref qn, .ref qo, .ref ql]))] := hD
  refine lv_if_ne (tgt := 14) hx hb dX5_film_8 (by decide) (fun c_3 => ?_) (fun c_3 => ?_)
  · skip
    have p_4 : 0 ≤ v0 ∧ v0 ≤ 3 := of_decide_eq_true (bz_ne w_2 c_3)
    refine lv_aload_n hx hb dX5_film_14 rfl (lv_at hl 0 rfl) ?_
    refine va_get (D := G.1) (ci := 5) (v := .ref nw) (C := RX5) (T := TX5) (N := 8) hx hb hts hiX5 hown hK hP 0 rfl rfl 2 (by decide) kf28 (fun _ h9 => h9) rfl dX5_film_15 ?_
    refine lv_iload_n hx hb dX5_film_18 rfl (lv_at hl 2 rfl) ?_
    have hPc : va_P G.1 vwCl [(nw, .inr (0, [.ref tt, .ref n1, .ref n2, .ref n3, .ref n4, .ref n5, .ref n6, .ref n7, .ref n8, .int 0, .int 0, .int 0]))] H := hP.sub [1] rfl
    have hDc : va_D A [(nw, .inr (0, [.ref tt, .ref n1, .ref n2, .ref n3, .ref n4, .ref n5, .ref n6, .ref n7, .ref n8, .int 0, .int 0, .int 0]))] := hD.sub [1] (by decide) rfl
    have hFc := va_free (wc := [(nw, .inr (0, [.ref tt, .ref n1, .ref n2, .ref n3, .ref n4, .ref n5, .ref n6, .ref n7, .ref n8, .int 0, .int 0, .int 0]))]) hD hS hA [1] rfl
    refine va_calli (va_runV (As := [.int v1]) (rest := []) ⟨hx, hb, hml, hown, hts⟩ (c_X0_hasJudge_0 l G nw tt n1 n2 n3 n4 n5 n6 n7 n8 v1 H.size) (cwV 1 hts gX5_film_X0_hasJudge rfl rfl rfl (by decide +kernel) ⟨Nat.le_of_ble_eq_true rfl, Nat.le_of_ble_eq_true rfl⟩) ⟨gPre_blind, va_recv hK hPc (ci := 0) (q0 := 0) rfl rfl, fun U hU hW => gPre_of hU hW hK hPc hDc⟩ rfl rfl hl.1 rfl (lv_room (Nat.le_of_ble_eq_true rfl)) dX5_film_19 ⟨Nat.le_of_ble_eq_true rfl, Nat.le_of_ble_eq_true rfl⟩) hS (fun q _ h => hFc q h) hFc (fun r_6 u t H locs ht hvm w_7 hB hz1 hk1 hS => ?_)
    obtain ⟨hP1, hK1, hD1⟩ := hB
    rw [ht] at hP1
    have hP1 : va_P G.1 vwCl [(nw, .inr (0, [.ref tt, .ref n1, .ref n2, .ref n3, .ref n4, .ref n5, .ref n6, .ref n7, .ref n8, .int 0, .int 0, .int 0]))] H := hP1
    have hD1 : va_D (va_A [(nw, .inr (0, [.ref tt, .ref n1, .ref n2, .ref n3, .ref n4, .ref n5, .ref n6, .ref n7, .ref n8, .int 0, .int 0, .int 0]))] _) [(nw, .inr (0, [.ref tt, .ref n1, .ref n2, .ref n3, .ref n4, .ref n5, .ref n6, .ref n7, .ref n8, .int 0, .int 0, .int 0]))] := hD1
    have w_7 : r_6 = 0 := w_7
    obtain ⟨hP, hD⟩ := va_join (wr := [(h0, .inr (5, [.ref tt, .ref rd, .ref nw, .ref th, .ref kp, .ref sh, .ref tu, .int 0])), (sh, .inr (2, [.ref qn, .ref qo, .ref ql]))]) (w1 := [(nw, .inr (0, [.ref tt, .ref n1, .ref n2, .ref n3, .ref n4, .ref n5, .ref n6, .ref n7, .ref n8, .int 0, .int 0, .int 0]))]) hP hD [1] [0, 2] rfl rfl (by decide) (by decide) hk1 hFc hP1 hD1
    have hP : va_P G.1 vwCl [(h0, .inr (5, [.ref tt, .ref rd, .ref nw, .ref th, .ref kp, .ref sh, .ref tu, .int 0])), (sh, .inr (2, [.ref qn, .ref qo, .ref ql])), (nw, .inr (0, [.ref tt, .ref n1, .ref n2, .ref n3, .ref n4, .ref n5, .ref n6, .ref n7, .ref n8, .int 0, .int 0, .int 0]))] H := hP
    have hD : va_D A [(h0, .inr (5, [.ref tt, .ref rd, .ref nw, .ref th, .ref kp, .ref sh, .ref tu, .int 0])), (sh, .inr (2, [.ref qn, .ref qo, .ref ql])), (nw, .inr (0, [.ref tt, .ref n1, .ref n2, .ref n3, .ref n4, .ref n5, .ref n6, .ref n7, .ref n8, .int 0, .int 0, .int 0]))] := hD
    have w_7 : r_6 = 0 := w_7
    subst w_7
    refine lv_if_ne (tgt := 28) hx hb dX5_film_22 (by decide) (fun c_8 => ?_) (fun c_8 => ?_)
    · exact absurd (by decide) c_8
    refine lv_bipush (v := -5) hx hb dX5_film_25 (by decide) ?_
    have hpost : (fun (r : Int32) (u : Unit) => match u with | _ => r = (if 0 ≤ v0 ∧ v0 ≤ 3 then -5 else -2)) (-5) () := pp_X5_film_0_1 v0 v1 v2 p_4
    exact W.iret (v := (-5)) hx hb hr (fun t ht hW => ⟨⟨(-5), (), rfl, hpost, trivial⟩, hS.F ht⟩) hS.2.2 dX5_film_27
  · skip
    have n_5 : ¬ (0 ≤ v0 ∧ v0 ≤ 3) := of_decide_eq_false (bz_eq w_2 c_3)
    refine lv_bipush (v := -2) hx hb dX5_film_11 (by decide) ?_
    have hpost : (fun (r : Int32) (u : Unit) => match u with | _ => r = (if 0 ≤ v0 ∧ v0 ≤ 3 then -5 else -2)) (-2) () := pp_X5_film_0_2 v0 v1 v2 n_5
    exact W.iret (v := (-2)) hx hb hr (fun t ht hW => ⟨⟨(-2), (), rfl, hpost, trivial⟩, hS.F ht⟩) hS.2.2 dX5_film_13
theorem pp_X5_image_0_1 : (0 : Int32) = 0 := by
  first
    | rfl
    | exact bz_pos (by (first | omega | (simp only [Int32.lt_iff_toInt_lt, Int32.le_iff_toInt_le, ← Int32.toInt_inj, Int32.reduceToInt] at * <;> omega)))
    | exact bz_neg (by (first | omega | (simp only [Int32.lt_iff_toInt_lt, Int32.le_iff_toInt_le, ← Int32.toInt_inj, Int32.reduceToInt] at * <;> omega)))
    | ((repeat' split) <;> first | rfl | assumption | (symm; assumption) | (exfalso; (first | omega | (simp only [Int32.lt_iff_toInt_lt, Int32.le_iff_toInt_le, ← Int32.toInt_inj, Int32.reduceToInt] at * <;> omega))))
abbrev q_X5_image_0 (G : gG) (h0 tt rd nw th kp sh tu n1 n2 n3 n4 n5 n6 n7 n8 k1 k2 k3 k4 k5 k6 k7 k8 : Nat) (A : Nat → Prop) : Array Value → State → Outcome → State → Prop := va_Qi (fun (r : Int32) (u : Unit) => match u with | _ => r = 0) (fun (u : Unit) t => match u with | _ => True) A
set_option maxHeartbeats 4000000 in
set_option maxRecDepth 100000 in
theorem c_X5_image_0 (l : Launch) (G : gG) (h0 tt rd nw th kp sh tu n1 n2 n3 n4 n5 n6 n7 n8 k1 k2 k3 k4 k5 k6 k7 k8 : Nat) (sz : Nat) : Met l yX5_image wsX5_image ({ frames := 2, cells := 0, slots := 0, locals := 421 }) (gPre G [.ref h0] [(h0, .inr (5, [.ref tt, .ref rd, .ref nw, .ref th, .ref kp, .ref sh, .ref tu, .int 0])), (nw, .inr (0, [.ref tt, .ref n1, .ref n2, .ref n3, .ref n4, .ref n5, .ref n6, .ref n7, .ref n8, .int 0, .int 0, .int 0])), (n2, .inl (G.2.1, 4, .inl (fun _ => 0))), (n3, .inl (G.2.1, 4, .inl (fun _ => 0))), (n4, .inl (G.2.1, 4, .inl (fun _ => 0))), (n5, .inl (G.2.1, 6, .inl (fun _ => 0))), (n6, .inl (G.2.1, 6, .inl (fun _ => 0))), (n7, .inl (G.2.1, 6, .inl (fun _ => 0))), (n8, .inl (G.2.1, 6, .inl (fun _ => 0))), (kp, .inr (0, [.ref tt, .ref k1, .ref k2, .ref k3, .ref k4, .ref k5, .ref k6, .ref k7, .ref k8, .int 0, .int 0, .int 0])), (k2, .inl (G.2.1, 4, .inl (fun _ => 0))), (k3, .inl (G.2.1, 4, .inl (fun _ => 0))), (k4, .inl (G.2.1, 4, .inl (fun _ => 0))), (k5, .inl (G.2.1, 6, .inl (fun _ => 0))), (k6, .inl (G.2.1, 6, .inl (fun _ => 0))), (k7, .inl (G.2.1, 6, .inl (fun _ => 0))), (k8, .inl (G.2.1, 6, .inl (fun _ => 0)))] sz) (q_X5_image_0 G h0 tt rd nw th kp sh tu n1 n2 n3 n4 n5 n6 n7 n8 k1 k2 k3 k4 k5 k6 k7 k8 (va_A [(h0, .inr (5, [.ref tt, .ref rd, .ref nw, .ref th, .ref kp, .ref sh, .ref tu, .int 0])), (nw, .inr (0, [.ref tt, .ref n1, .ref n2, .ref n3, .ref n4, .ref n5, .ref n6, .ref n7, .ref n8, .int 0, .int 0, .int 0])), (n2, .inl (G.2.1, 4, .inl (fun _ => 0))), (n3, .inl (G.2.1, 4, .inl (fun _ => 0))), (n4, .inl (G.2.1, 4, .inl (fun _ => 0))), (n5, .inl (G.2.1, 6, .inl (fun _ => 0))), (n6, .inl (G.2.1, 6, .inl (fun _ => 0))), (n7, .inl (G.2.1, 6, .inl (fun _ => 0))), (n8, .inl (G.2.1, 6, .inl (fun _ => 0))), (kp, .inr (0, [.ref tt, .ref k1, .ref k2, .ref k3, .ref k4, .ref k5, .ref k6, .ref k7, .ref k8, .int 0, .int 0, .int 0])), (k2, .inl (G.2.1, 4, .inl (fun _ => 0))), (k3, .inl (G.2.1, 4, .inl (fun _ => 0))), (k4, .inl (G.2.1, 4, .inl (fun _ => 0))), (k5, .inl (G.2.1, 6, .inl (fun _ => 0))), (k6, .inl (G.2.1, 6, .inl (fun _ => 0))), (k7, .inl (G.2.1, 6, .inl (fun _ => 0))), (k8, .inl (G.2.1, 6, .inl (fun _ => 0)))] sz)) 0 0 (va_A [(h0, .inr (5, [.ref tt, .ref rd, .ref nw, .ref th, .ref kp, .ref sh, .ref tu, .int 0])), (nw, .inr (0, [.ref tt, .ref n1, .ref n2, .ref n3, .ref n4, .ref n5, .ref n6, .ref n7, .ref n8, .int 0, .int 0, .int 0])), (n2, .inl (G.2.1, 4, .inl (fun _ => 0))), (n3, .inl (G.2.1, 4, .inl (fun _ => 0))), (n4, .inl (G.2.1, 4, .inl (fun _ => 0))), (n5, .inl (G.2.1, 6, .inl (fun _ => 0))), (n6, .inl (G.2.1, 6, .inl (fun _ => 0))), (n7, .inl (G.2.1, 6, .inl (fun _ => 0))), (n8, .inl (G.2.1, 6, .inl (fun _ => 0))), (kp, .inr (0, [.ref tt, .ref k1, .ref k2, .ref k3, .ref k4, .ref k5, .ref k6, .ref k7, .ref k8, .int 0, .int 0, .int 0])), (k2, .inl (G.2.1, 4, .inl (fun _ => 0))), (k3, .inl (G.2.1, 4, .inl (fun _ => 0))), (k4, .inl (G.2.1, 4, .inl (fun _ => 0))), (k5, .inl (G.2.1, 6, .inl (fun _ => 0))), (k6, .inl (G.2.1, 6, .inl (fun _ => 0))), (k7, .inl (G.2.1, 6, .inl (fun _ => 0))), (k8, .inl (G.2.1, 6, .inl (fun _ => 0)))] sz) := by
  refine Met.ofW (cc := cX5_image) (maxL := 1) (ret := (some .int)) (by decide) rfl ?_
  intro p e s m args below meth c s₁ B hml hv
  obtain ⟨rfl, hsz, hP, hK, hD0⟩ := hv
  have hx := B.exec
  have hb := B.bytes
  have hr := B.returns
  have hts := atoms_spec (ws := wsX5_image) B.pre
  have hown : s.vm.findClass RX5 = some m.cls := findClass_of_methodNamed B.named
  have hlocks := B.notSynchronized
  subst hsz
  have hD := hD0.self (sz := s.heap.size)
  generalize hAe : va_A [(h0, .inr (5, [.ref tt, .ref rd, .ref nw, .ref th, .ref kp, .ref sh, .ref tu, .int 0])), (nw, .inr (0, [.ref tt, .ref n1, .ref n2, .ref n3, .ref n4, .ref n5, .ref n6, .ref n7, .ref n8, .int 0, .int 0, .int 0])), (n2, .inl (G.2.1, 4, .inl (fun _ => 0))), (n3, .inl (G.2.1, 4, .inl (fun _ => 0))), (n4, .inl (G.2.1, 4, .inl (fun _ => 0))), (n5, .inl (G.2.1, 6, .inl (fun _ => 0))), (n6, .inl (G.2.1, 6, .inl (fun _ => 0))), (n7, .inl (G.2.1, 6, .inl (fun _ => 0))), (n8, .inl (G.2.1, 6, .inl (fun _ => 0))), (kp, .inr (0, [.ref tt, .ref k1, .ref k2, .ref k3, .ref k4, .ref k5, .ref k6, .ref k7, .ref k8, .int 0, .int 0, .int 0])), (k2, .inl (G.2.1, 4, .inl (fun _ => 0))), (k3, .inl (G.2.1, 4, .inl (fun _ => 0))), (k4, .inl (G.2.1, 4, .inl (fun _ => 0))), (k5, .inl (G.2.1, 6, .inl (fun _ => 0))), (k6, .inl (G.2.1, 6, .inl (fun _ => 0))), (k7, .inl (G.2.1, 6, .inl (fun _ => 0))), (k8, .inl (G.2.1, 6, .inl (fun _ => 0)))] s.heap.size = A at hD ⊢
  have hA : ∀ q : Nat, s.heap.size ≤ q → A q := fun q h => by rw [← hAe]; exact Or.inr h
  have hS : va_S A s.heap s.heap [] := va_S.rf
  have hP : va_P G.1 vwCl [(h0, .inr (5, [.ref tt, .ref rd, .ref nw, .ref th, .ref kp, .ref sh, .ref tu, .int 0])), (nw, .inr (0, [.ref tt, .ref n1, .ref n2, .ref n3, .ref n4, .ref n5, .ref n6, .ref n7, .ref n8, .int 0, .int 0, .int 0])), (n2, .inl (G.2.1, 4, .inl (fun _ => 0))), (n3, .inl (G.2.1, 4, .inl (fun _ => 0))), (n4, .inl (G.2.1, 4, .inl (fun _ => 0))), (n5, .inl (G.2.1, 6, .inl (fun _ => 0))), (n6, .inl (G.2.1, 6, .inl (fun _ => 0))), (n7, .inl (G.2.1, 6, .inl (fun _ => 0))), (n8, .inl (G.2.1, 6, .inl (fun _ => 0))), (kp, .inr (0, [.ref tt, .ref k1, .ref k2, .ref k3, .ref k4, .ref k5, .ref k6, .ref k7, .ref k8, .int 0, .int 0, .int 0])), (k2, .inl (G.2.1, 4, .inl (fun _ => 0))), (k3, .inl (G.2.1, 4, .inl (fun _ => 0))), (k4, .inl (G.2.1, 4, .inl (fun _ => 0))), (k5, .inl (G.2.1, 6, .inl (fun _ => 0))), (k6, .inl (G.2.1, 6, .inl (fun _ => 0))), (k7, .inl (G.2.1, 6, .inl (fun _ => 0))), (k8, .inl (G.2.1, 6, .inl (fun _ => 0)))] s.heap := hP
  have hD : va_D A [(h0, .inr (5, [.ref tt, .ref rd, .ref nw, .ref th, .ref kp, .ref sh, .ref tu, .int 0])), (nw, .inr (0, [.ref tt, .ref n1, .ref n2, .ref n3, .ref n4, .ref n5, .ref n6, .ref n7, .ref n8, .int 0, .int 0, .int 0])), (n2, .inl (G.2.1, 4, .inl (fun _ => 0))), (n3, .inl (G.2.1, 4, .inl (fun _ => 0))), (n4, .inl (G.2.1, 4, .inl (fun _ => 0))), (n5, .inl (G.2.1, 6, .inl (fun _ => 0))), (n6, .inl (G.2.1, 6, .inl (fun _ => 0))), (n7, .inl (G.2.1, 6, .inl (fun _ => 0))), (n8, .inl (G.2.1, 6, .inl (fun _ => 0))), (kp, .inr (0, [.ref tt, .ref k1, .ref k2, .ref k3, .ref k4, .ref k5, .ref k6, .ref k7, .ref k8, .int 0, .int 0, .int 0])), (k2, .inl (G.2.1, 4, .inl (fun _ => 0))), (k3, .inl (G.2.1, 4, .inl (fun _ => 0))), (k4, .inl (G.2.1, 4, .inl (fun _ => 0))), (k5, .inl (G.2.1, 6, .inl (fun _ => 0))), (k6, .inl (G.2.1, 6, .inl (fun _ => 0))), (k7, .inl (G.2.1, 6, .inl (fun _ => 0))), (k8, .inl (G.2.1, 6, .inl (fun _ => 0)))] := hD
  have hl := lv_entry ([.ref h0]) (n := 1) (Nat.le_of_ble_eq_true rfl)
  rw [lg_entry_eq]
  generalize (lg_sl ([.ref h0]) ++ List.replicate (1 - (lg_sl ([.ref h0])).length) Slot.unset).toArray = ls at hl ⊢
  have hl : lv_has ls 1 [(0, .ref h0)] := hl
  have kf35 := hts (.fieldLink RX5 35 "PebbleInShoe" "kept" "LPebbleInShoe$Court;") (by decide +kernel)
  have hiX5 := (by decide +kernel : ∀ w ∈ wsX50, w ∈ wsX5_image)
  have kf28 := hts (.fieldLink RX5 28 "PebbleInShoe" "now" "LPebbleInShoe$Court;") (by decide +kernel)
  have kf221 := hts (.fieldLink RX5 221 "PebbleInShoe" "hasImage" "Z") (by decide +kernel)
  have kf71 := hts (.fieldLink RX5 71 "PebbleInShoe$Court" "pebbles" "I") (by decide +kernel)
  have hiX0 := (by decide +kernel : ∀ w ∈ wsX00, w ∈ wsX5_image)
  refine lv_aload_n hx hb dX5_image_0 rfl (lv_at hl 0 rfl) ?_
  refine va_get (D := G.1) (ci := 5) (v := .ref kp) (C := RX5) (T := TX5) (N := 8) hx hb hts hiX5 hown hK hP 0 rfl rfl 4 (by decide) kf35 (fun _ h9 => h9) rfl dX5_image_1 ?_
  refine lv_aload_n hx hb dX5_image_4 rfl (lv_at hl 0 rfl) ?_
  refine va_get (D := G.1) (ci := 5) (v := .ref nw) (C := RX5) (T := TX5) (N := 8) hx hb hts hiX5 hown hK hP 0 rfl rfl 2 (by decide) kf28 (fun _ h9 => h9) rfl dX5_image_5 ?_
  have hPc : va_P G.1 vwCl [(nw, .inr (0, [.ref tt, .ref n1, .ref n2, .ref n3, .ref n4, .ref n5, .ref n6, .ref n7, .ref n8, .int 0, .int 0, .int 0])), (n2, .inl (G.2.1, 4, .inl (fun _ => 0))), (n3, .inl (G.2.1, 4, .inl (fun _ => 0))), (n4, .inl (G.2.1, 4, .inl (fun _ => 0))), (n5, .inl (G.2.1, 6, .inl (fun _ => 0))), (n6, .inl (G.2.1, 6, .inl (fun _ => 0))), (n7, .inl (G.2.1, 6, .inl (fun _ => 0))), (n8, .inl (G.2.1, 6, .inl (fun _ => 0))), (kp, .inr (0, [.ref tt, .ref k1, .ref k2, .ref k3, .ref k4, .ref k5, .ref k6, .ref k7, .ref k8, .int 0, .int 0, .int 0])), (k2, .inl (G.2.1, 4, .inl (fun _ => 0))), (k3, .inl (G.2.1, 4, .inl (fun _ => 0))), (k4, .inl (G.2.1, 4, .inl (fun _ => 0))), (k5, .inl (G.2.1, 6, .inl (fun _ => 0))), (k6, .inl (G.2.1, 6, .inl (fun _ => 0))), (k7, .inl (G.2.1, 6, .inl (fun _ => 0))), (k8, .inl (G.2.1, 6, .inl (fun _ => 0)))] s.heap := hP.sub [1, 2, 3, 4, 5, 6, 7, 8, 9, 10, 11, 12, 13, 14, 15, 16] rfl
  have hDc : va_D A [(nw, .inr (0, [.ref tt, .ref n1, .ref n2, .ref n3, .ref n4, .ref n5, .ref n6, .ref n7, .ref n8, .int 0, .int 0, .int 0])), (n2, .inl (G.2.1, 4, .inl (fun _ => 0))), (n3, .inl (G.2.1, 4, .inl (fun _ => 0))), (n4, .inl (G.2.1, 4, .inl (fun _ => 0))), (n5, .inl (G.2.1, 6, .inl (fun _ => 0))), (n6, .inl (G.2.1, 6, .inl (fun _ => 0))), (n7, .inl (G.2.1, 6, .inl (fun _ => 0))), (n8, .inl (G.2.1, 6, .inl (fun _ => 0))), (kp, .inr (0, [.ref tt, .ref k1, .ref k2, .ref k3, .ref k4, .ref k5, .ref k6, .ref k7, .ref k8, .int 0, .int 0, .int 0])), (k2, .inl (G.2.1, 4, .inl (fun _ => 0))), (k3, .inl (G.2.1, 4, .inl (fun _ => 0))), (k4, .inl (G.2.1, 4, .inl (fun _ => 0))), (k5, .inl (G.2.1, 6, .inl (fun _ => 0))), (k6, .inl (G.2.1, 6, .inl (fun _ => 0))), (k7, .inl (G.2.1, 6, .inl (fun _ => 0))), (k8, .inl (G.2.1, 6, .inl (fun _ => 0)))] := hD.sub [1, 2, 3, 4, 5, 6, 7, 8, 9, 10, 11, 12, 13, 14, 15, 16] (by decide) rfl
  have hFc := va_free (wc := [(nw, .inr (0, [.ref tt, .ref n1, .ref n2, .ref n3, .ref n4, .ref n5, .ref n6, .ref n7, .ref n8, .int 0, .int 0, .int 0])), (n2, .inl (G.2.1, 4, .inl (fun _ => 0))), (n3, .inl (G.2.1, 4, .inl (fun _ => 0))), (n4, .inl (G.2.1, 4, .inl (fun _ => 0))), (n5, .inl (G.2.1, 6, .inl (fun _ => 0))), (n6, .inl (G.2.1, 6, .inl (fun _ => 0))), (n7, .inl (G.2.1, 6, .inl (fun _ => 0))), (n8, .inl (G.2.1, 6, .inl (fun _ => 0))), (kp, .inr (0, [.ref tt, .ref k1, .ref k2, .ref k3, .ref k4, .ref k5, .ref k6, .ref k7, .ref k8, .int 0, .int 0, .int 0])), (k2, .inl (G.2.1, 4, .inl (fun _ => 0))), (k3, .inl (G.2.1, 4, .inl (fun _ => 0))), (k4, .inl (G.2.1, 4, .inl (fun _ => 0))), (k5, .inl (G.2.1, 6, .inl (fun _ => 0))), (k6, .inl (G.2.1, 6, .inl (fun _ => 0))), (k7, .inl (G.2.1, 6, .inl (fun _ => 0))), (k8, .inl (G.2.1, 6, .inl (fun _ => 0)))]) hD hS hA [1, 2, 3, 4, 5, 6, 7, 8, 9, 10, 11, 12, 13, 14, 15, 16] rfl
  refine va_callv (va_runV (As := [.ref nw]) (rest := []) ⟨hx, hb, hml, hown, hts⟩ (c_X0_become_0 l G kp nw tt n1 n2 n3 n4 n5 n6 n7 n8 k1 k2 k3 k4 k5 k6 k7 k8 s.heap.size) (cwV 1 hts gX5_image_X0_become rfl rfl rfl (by decide +kernel) ⟨Nat.le_of_ble_eq_true rfl, Nat.le_of_ble_eq_true rfl⟩) ⟨gPre_blind, va_recv hK hPc (ci := 0) (q0 := 8) rfl rfl, fun U hU hW => gPre_of hU hW hK hPc hDc⟩ rfl rfl hl.1 rfl (lv_room (Nat.le_of_ble_eq_true rfl)) dX5_image_8 ⟨Nat.le_of_ble_eq_true rfl, Nat.le_of_ble_eq_true rfl⟩) hS (fun q _ h => hFc q h) hFc (fun u t H locs ht hvm w_2 hB hz1 hk1 hS => ?_)
  obtain ⟨y2_3, y3_4, y4_5, y5_6, y6_7, y7_8, y8_9⟩ := u
  obtain ⟨hP1, hK1, hD1⟩ := hB
  rw [ht] at hP1
  have hP1 : va_P G.1 vwCl [(nw, .inr (0, [.ref tt, .ref n1, .ref n2, .ref n3, .ref n4, .ref n5, .ref n6, .ref n7, .ref n8, .int 0, .int 0, .int 0])), (n2, .inl (G.2.1, 4, .inl (fun _ => 0))), (n3, .inl (G.2.1, 4, .inl (fun _ => 0))), (n4, .inl (G.2.1, 4, .inl (fun _ => 0))), (n5, .inl (G.2.1, 6, .inl (fun _ => 0))), (n6, .inl (G.2.1, 6, .inl (fun _ => 0))), (n7, .inl (G.2.1, 6, .inl (fun _ => 0))), (n8, .inl (G.2.1, 6, .inl (fun _ => 0))), (kp, .inr (0, [.ref tt, .ref k1, .ref k2, .ref k3, .ref k4, .ref k5, .ref k6, .ref k7, .ref k8, .int 0, .int 0, .int 0])), (k2, .inl (G.2.1, 4, .inl y2_3)), (k3, .inl (G.2.1, 4, .inl y3_4)), (k4, .inl (G.2.1, 4, .inl y4_5)), (k5, .inl (G.2.1, 6, .inl y5_6)), (k6, .inl (G.2.1, 6, .inl y6_7)), (k7, .inl (G.2.1, 6, .inl y7_8)), (k8, .inl (G.2.1, 6, .inl y8_9))] H := hP1
  have hD1 : va_D (va_A [(nw, .inr (0, [.ref tt, .ref n1, .ref n2, .ref n3, .ref n4, .ref n5, .ref n6, .ref n7, .ref n8, .int 0, .int 0, .int 0])), (n2, .inl (G.2.1, 4, .inl (fun _ => 0))), (n3, .inl (G.2.1, 4, .inl (fun _ => 0))), (n4, .inl (G.2.1, 4, .inl (fun _ => 0))), (n5, .inl (G.2.1, 6, .inl (fun _ => 0))), (n6, .inl (G.2.1, 6, .inl (fun _ => 0))), (n7, .inl (G.2.1, 6, .inl (fun _ => 0))), (n8, .inl (G.2.1, 6, .inl (fun _ => 0))), (kp, .inr (0, [.ref tt, .ref k1, .ref k2, .ref k3, .ref k4, .ref k5, .ref k6, .ref k7, .ref k8, .int 0, .int 0, .int 0])), (k2, .inl (G.2.1, 4, .inl (fun _ => 0))), (k3, .inl (G.2.1, 4, .inl (fun _ => 0))), (k4, .inl (G.2.1, 4, .inl (fun _ => 0))), (k5, .inl (G.2.1, 6, .inl (fun _ => 0))), (k6, .inl (G.2.1, 6, .inl (fun _ => 0))), (k7, .inl (G.2.1, 6, .inl (fun _ => 0))), (k8, .inl (G.2.1, 6, .inl (fun _ => 0)))] s.heap.size) [(nw, .inr (0, [.ref tt, .ref n1, .ref n2, .ref n3, .ref n4, .ref n5, .ref n6, .ref n7, .ref n8, .int 0, .int 0, .int 0])), (n2, .inl (G.2.1, 4, .inl (fun _ => 0))), (n3, .inl (G.2.1, 4, .inl (fun _ => 0))), (n4, .inl (G.2.1, 4, .inl (fun _ => 0))), (n5, .inl (G.2.1, 6, .inl (fun _ => 0))), (n6, .inl (G.2.1, 6, .inl (fun _ => 0))), (n7, .inl (G.2.1, 6, .inl (fun _ => 0))), (n8, .inl (G.2.1, 6, .inl (fun _ => 0))), (kp, .inr (0, [.ref tt, .ref k1, .ref k2, .ref k3, .ref k4, .ref k5, .ref k6, .ref k7, .ref k8, .int 0, .int 0, .int 0])), (k2, .inl (G.2.1, 4, .inl y2_3)), (k3, .inl (G.2.1, 4, .inl y3_4)), (k4, .inl (G.2.1, 4, .inl y4_5)), (k5, .inl (G.2.1, 6, .inl y5_6)), (k6, .inl (G.2.1, 6, .inl y6_7)), (k7, .inl (G.2.1, 6, .inl y7_8)), (k8, .inl (G.2.1, 6, .inl y8_9))] := hD1
  obtain ⟨hP, hD⟩ := va_join (wr := [(h0, .inr (5, [.ref tt, .ref rd, .ref nw, .ref th, .ref kp, .ref sh, .ref tu, .int 0]))]) (w1 := [(nw, .inr (0, [.ref tt, .ref n1, .ref n2, .ref n3, .ref n4, .ref n5, .ref n6, .ref n7, .ref n8, .int 0, .int 0, .int 0])), (n2, .inl (G.2.1, 4, .inl (fun _ => 0))), (n3, .inl (G.2.1, 4, .inl (fun _ => 0))), (n4, .inl (G.2.1, 4, .inl (fun _ => 0))), (n5, .inl (G.2.1, 6, .inl (fun _ => 0))), (n6, .inl (G.2.1, 6, .inl (fun _ => 0))), (n7, .inl (G.2.1, 6, .inl (fun _ => 0))), (n8, .inl (G.2.1, 6, .inl (fun _ => 0))), (kp, .inr (0, [.ref tt, .ref k1, .ref k2, .ref k3, .ref k4, .ref k5, .ref k6, .ref k7, .ref k8, .int 0, .int 0, .int 0])), (k2, .inl (G.2.1, 4, .inl y2_3)), (k3, .inl (G.2.1, 4, .inl y3_4)), (k4, .inl (G.2.1, 4, .inl y4_5)), (k5, .inl (G.2.1, 6, .inl y5_6)), (k6, .inl (G.2.1, 6, .inl y6_7)), (k7, .inl (G.2.1, 6, .inl y7_8)), (k8, .inl (G.2.1, 6, .inl y8_9))]) hP hD [1, 2, 3, 4, 5, 6, 7, 8, 9, 10, 11, 12, 13, 14, 15, 16] [0] rfl rfl (by decide) (by decide) hk1 hFc hP1 hD1
  have hP : va_P G.1 vwCl [(h0, .inr (5, [.ref tt, .ref rd, .ref nw, .ref th, .ref kp, .ref sh, .ref tu, .int 0])), (nw, .inr (0, [.ref tt, .ref n1, .ref n2, .ref n3, .ref n4, .ref n5, .ref n6, .ref n7, .ref n8, .int 0, .int 0, .int 0])), (n2, .inl (G.2.1, 4, .inl (fun _ => 0))), (n3, .inl (G.2.1, 4, .inl (fun _ => 0))), (n4, .inl (G.2.1, 4, .inl (fun _ => 0))), (n5, .inl (G.2.1, 6, .inl (fun _ => 0))), (n6, .inl (G.2.1, 6, .inl (fun _ => 0))), (n7, .inl (G.2.1, 6, .inl (fun _ => 0))), (n8, .inl (G.2.1, 6, .inl (fun _ => 0))), (kp, .inr (0, [.ref tt, .ref k1, .ref k2, .ref k3, .ref k4, .ref k5, .ref k6, .ref k7, .ref k8, .int 0, .int 0, .int 0])), (k2, .inl (G.2.1, 4, .inl y2_3)), (k3, .inl (G.2.1, 4, .inl y3_4)), (k4, .inl (G.2.1, 4, .inl y4_5)), (k5, .inl (G.2.1, 6, .inl y5_6)), (k6, .inl (G.2.1, 6, .inl y6_7)), (k7, .inl (G.2.1, 6, .inl y7_8)), (k8, .inl (G.2.1, 6, .inl y8_9))] H := hP
  have hD : va_D A [(h0, .inr (5, [.ref tt, .ref rd, .ref nw, .ref th, .ref kp, .ref sh, .ref tu, .int 0])), (nw, .inr (0, [.ref tt, .ref n1, .ref n2, .ref n3, .ref n4, .ref n5, .ref n6, .ref n7, .ref n8, .int 0, .int 0, .int 0])), (n2, .inl (G.2.1, 4, .inl (fun _ => 0))), (n3, .inl (G.2.1, 4, .inl (fun _ => 0))), (n4, .inl (G.2.1, 4, .inl (fun _ => 0))), (n5, .inl (G.2.1, 6, .inl (fun _ => 0))), (n6, .inl (G.2.1, 6, .inl (fun _ => 0))), (n7, .inl (G.2.1, 6, .inl (fun _ => 0))), (n8, .inl (G.2.1, 6, .inl (fun _ => 0))), (kp, .inr (0, [.ref tt, .ref k1, .ref k2, .ref k3, .ref k4, .ref k5, .ref k6, .ref k7, .ref k8, .int 0, .int 0, .int 0])), (k2, .inl (G.2.1, 4, .inl y2_3)), (k3, .inl (G.2.1, 4, .inl y3_4)), (k4, .inl (G.2.1, 4, .inl y4_5)), (k5, .inl (G.2.1, 6, .inl y5_6)), (k6, .inl (G.2.1, 6, .inl y6_7)), (k7, .inl (G.2.1, 6, .inl y7_8)), (k8, .inl (G.2.1, 6, .inl y8_9))] := hD
  refine lv_aload_n hx hb dX5_image_11 rfl (lv_at hl 0 rfl) ?_
  refine lv_iconst (v := 1) hx hb dX5_image_12 (by decide) ?_
  refine va_put (D := G.1) (ci := 5) (v := .int 1) (ty := .boolean) (C := RX5) (T := TX5) (N := 8) hx hb hts hiX5 tyX5 tyX5_ok nmX5 hown hK hP hD hS 0 rfl rfl 7 (by decide) kf221 (fun _ h9 => h9) rfl (by decide +kernel) rfl rfl (Nat.le_of_ble_eq_true rfl) dX5_image_13 (fun H locs hP hD hS => ?_)
  have hP : va_P G.1 vwCl [(h0, .inr (5, [.ref tt, .ref rd, .ref nw, .ref th, .ref kp, .ref sh, .ref tu, .int 1])), (nw, .inr (0, [.ref tt, .ref n1, .ref n2, .ref n3, .ref n4, .ref n5, .ref n6, .ref n7, .ref n8, .int 0, .int 0, .int 0])), (n2, .inl (G.2.1, 4, .inl (fun _ => 0))), (n3, .inl (G.2.1, 4, .inl (fun _ => 0))), (n4, .inl (G.2.1, 4, .inl (fun _ => 0))), (n5, .inl (G.2.1, 6, .inl (fun _ => 0))), (n6, .inl (G.2.1, 6, .inl (fun _ => 0))), (n7, .inl (G.2.1, 6, .inl (fun _ => 0))), (n8, .inl (G.2.1, 6, .inl (fun _ => 0))), (kp, .inr (0, [.ref tt, .ref k1, .ref k2, .ref k3, .ref k4, .ref k5, .ref k6, .ref k7, .ref k8, .int 0, .int 0, .int 0])), (k2, .inl (G.2.1, 4, .inl y2_3)), (k3, .inl (G.2.1, 4, .inl y3_4)), (k4, .inl (G.2.1, 4, .inl y4_5)), (k5, .inl (G.2.1, 6, .inl y5_6)), (k6, .inl (G.2.1, 6, .inl y6_7)), (k7, .inl (G.2.1, 6, .inl y7_8)), (k8, .inl (G.2.1, 6, .inl y8_9))] H := hP
  have hD : va_D A [(h0, .inr (5, [.ref tt, .ref rd, .ref nw, .ref th, .ref kp, .ref sh, .ref tu, .int 1])), (nw, .inr (0, [.ref tt, .ref n1, .ref n2, .ref n3, .ref n4, .ref n5, .ref n6, .ref n7, .ref n8, .int 0, .int 0, .int 0])), (n2, .inl (G.2.1, 4, .inl (fun _ => 0))), (n3, .inl (G.2.1, 4, .inl (fun _ => 0))), (n4, .inl (G.2.1, 4, .inl (fun _ => 0))), (n5, .inl (G.2.1, 6, .inl (fun _ => 0))), (n6, .inl (G.2.1, 6, .inl (fun _ => 0))), (n7, .inl (G.2.1, 6, .inl (fun _ => 0))), (n8, .inl (G.2.1, 6, .inl (fun _ => 0))), (kp, .inr (0, [.ref tt, .ref k1, .ref k2, .ref k3, .ref k4, .ref k5, .ref k6, .ref k7, .ref k8, .int 0, .int 0, .int 0])), (k2, .inl (G.2.1, 4, .inl y2_3)), (k3, .inl (G.2.1, 4, .inl y3_4)), (k4, .inl (G.2.1, 4, .inl y4_5)), (k5, .inl (G.2.1, 6, .inl y5_6)), (k6, .inl (G.2.1, 6, .inl y6_7)), (k7, .inl (G.2.1, 6, .inl y7_8)), (k8, .inl (G.2.1, 6, .inl y8_9))] := hD
  refine lv_aload_n hx hb dX5_image_16 rfl (lv_at hl 0 rfl) ?_
  refine va_get (D := G.1) (ci := 5) (v := .ref nw) (C := RX5) (T := TX5) (N := 8) hx hb hts hiX5 hown hK hP 0 rfl rfl 2 (by decide) kf28 (fun _ h9 => h9) rfl dX5_image_17 ?_
  refine va_get (D := G.1) (ci := 0) (v := .int 0) (C := RX0) (T := TX0) (N := 12) hx hb hts hiX0 hown hK hP 1 rfl rfl 10 (by decide) kf71 (fun _ h9 => h9) rfl dX5_image_20 ?_
  have hpost : (fun (r : Int32) (u : Unit) => match u with | _ => r = 0) 0 () := pp_X5_image_0_1  
  exact W.iret (v := 0) hx hb hr (fun t ht hW => ⟨⟨0, (), rfl, hpost, trivial⟩, hS.F ht⟩) hS.2.2 dX5_image_23
theorem pp_X5_back_0_1 : ((-3) : Int32) = -3 := by
  first
    | rfl
    | exact bz_pos (by (first | omega | (simp only [Int32.lt_iff_toInt_lt, Int32.le_iff_toInt_le, ← Int32.toInt_inj, Int32.reduceToInt] at * <;> omega)))
    | exact bz_neg (by (first | omega | (simp only [Int32.lt_iff_toInt_lt, Int32.le_iff_toInt_le, ← Int32.toInt_inj, Int32.reduceToInt] at * <;> omega)))
    | ((repeat' split) <;> first | rfl | assumption | (symm; assumption) | (exfalso; (first | omega | (simp only [Int32.lt_iff_toInt_lt, Int32.le_iff_toInt_le, ← Int32.toInt_inj, Int32.reduceToInt] at * <;> omega))))
abbrev q_X5_back_0 (G : gG) (h0 tt rd nw th kp sh tu : Nat) (A : Nat → Prop) : Array Value → State → Outcome → State → Prop := va_Qi (fun (r : Int32) (u : Unit) => match u with | _ => r = -3) (fun (u : Unit) t => match u with | _ => True) A
set_option maxHeartbeats 4000000 in
set_option maxRecDepth 100000 in
theorem c_X5_back_0 (l : Launch) (G : gG) (h0 tt rd nw th kp sh tu : Nat) (sz : Nat) : Met l yX5_back wsX5_back ({ frames := 0, cells := 0, slots := 0, locals := 0 }) (gPre G [.ref h0] [(h0, .inr (5, [.ref tt, .ref rd, .ref nw, .ref th, .ref kp, .ref sh, .ref tu, .int 0]))] sz) (q_X5_back_0 G h0 tt rd nw th kp sh tu (va_A [(h0, .inr (5, [.ref tt, .ref rd, .ref nw, .ref th, .ref kp, .ref sh, .ref tu, .int 0]))] sz)) 0 0 (va_A [(h0, .inr (5, [.ref tt, .ref rd, .ref nw, .ref th, .ref kp, .ref sh, .ref tu, .int 0]))] sz) := by
  refine Met.ofW (cc := cX5_back) (maxL := 1) (ret := (some .int)) (by decide) rfl ?_
  intro p e s m args below meth c s₁ B hml hv
  obtain ⟨rfl, hsz, hP, hK, hD0⟩ := hv
  have hx := B.exec
  have hb := B.bytes
  have hr := B.returns
  have hts := atoms_spec (ws := wsX5_back) B.pre
  have hown : s.vm.findClass RX5 = some m.cls := findClass_of_methodNamed B.named
  have hlocks := B.notSynchronized
  subst hsz
  have hD := hD0.self (sz := s.heap.size)
  generalize hAe : va_A [(h0, .inr (5, [.ref tt, .ref rd, .ref nw, .ref th, .ref kp, .ref sh, .ref tu, .int 0]))] s.heap.size = A at hD ⊢
  have hA : ∀ q : Nat, s.heap.size ≤ q → A q := fun q h => by rw [← hAe]; exact Or.inr h
  have hS : va_S A s.heap s.heap [] := va_S.rf
  have hP : va_P G.1 vwCl [(h0, .inr (5, [.ref tt, .ref rd, .ref nw, .ref th, .ref kp, .ref sh, .ref tu, .int 0]))] s.heap := hP
  have hD : va_D A [(h0, .inr (5, [.ref tt, .ref rd, .ref nw, .ref th, .ref kp, .ref sh, .ref tu, .int 0]))] := hD
  have hl := lv_entry ([.ref h0]) (n := 1) (Nat.le_of_ble_eq_true rfl)
  rw [lg_entry_eq]
  generalize (lg_sl ([.ref h0]) ++ List.replicate (1 - (lg_sl ([.ref h0])).length) Slot.unset).toArray = ls at hl ⊢
  have hl : lv_has ls 1 [(0, .ref h0)] := hl
  have kf221 := hts (.fieldLink RX5 221 "PebbleInShoe" "hasImage" "Z") (by decide +kernel)
  have hiX5 := (by decide +kernel : ∀ w ∈ wsX50, w ∈ wsX5_back)
  refine lv_aload_n hx hb dX5_back_0 rfl (lv_at hl 0 rfl) ?_
  refine va_get (D := G.1) (ci := 5) (v := .int 0) (C := RX5) (T := TX5) (N := 8) hx hb hts hiX5 hown hK hP 0 rfl rfl 7 (by decide) kf221 (fun _ h9 => h9) rfl dX5_back_1 ?_
  refine lv_if_ne (tgt := 10) hx hb dX5_back_4 (by decide) (fun c_1 => ?_) (fun c_1 => ?_)
  · exact absurd (by decide) c_1
  refine lv_bipush (v := -3) hx hb dX5_back_7 (by decide) ?_
  have hpost : (fun (r : Int32) (u : Unit) => match u with | _ => r = -3) (-3) () := pp_X5_back_0_1  
  exact W.iret (v := (-3)) hx hb hr (fun t ht hW => ⟨⟨(-3), (), rfl, hpost, trivial⟩, hS.F ht⟩) hS.2.2 dX5_back_9
theorem pp_X5_sheet_0_1 (v0 : Int32) (v1 : Int32) (v2 : Int32) (fn : Nat → Option Nat) (n_5 : ¬ (0 ≤ v0 ∧ v0 ≤ 3)) : ((-2) : Int32) = (if (0 ≤ v0 ∧ v0 ≤ 3) ∧ (-1 ≤ v1 ∧ v1 ≤ 2) then (if v1 = -1 then 1 else if 40 < v2 then -2 else if v2 < 0 then -14 else 1) else -2) := by
  first
    | rfl
    | exact bz_pos (by (first | omega | (simp only [Int32.lt_iff_toInt_lt, Int32.le_iff_toInt_le, ← Int32.toInt_inj, Int32.reduceToInt] at * <;> omega)))
    | exact bz_neg (by (first | omega | (simp only [Int32.lt_iff_toInt_lt, Int32.le_iff_toInt_le, ← Int32.toInt_inj, Int32.reduceToInt] at * <;> omega)))
    | ((repeat' split) <;> first | rfl | assumption | (symm; assumption) | (exfalso; (first | omega | (simp only [Int32.lt_iff_toInt_lt, Int32.le_iff_toInt_le, ← Int32.toInt_inj, Int32.reduceToInt] at * <;> omega))))
theorem pp_X5_sheet_0_2 (v0 : Int32) (v1 : Int32) (v2 : Int32) (fn : Nat → Option Nat) (p_4 : 0 ≤ v0 ∧ v0 ≤ 3) (c_6 : v1 < (-1)) : ((-2) : Int32) = (if (0 ≤ v0 ∧ v0 ≤ 3) ∧ (-1 ≤ v1 ∧ v1 ≤ 2) then (if v1 = -1 then 1 else if 40 < v2 then -2 else if v2 < 0 then -14 else 1) else -2) := by
  first
    | rfl
    | exact bz_pos (by (first | omega | (simp only [Int32.lt_iff_toInt_lt, Int32.le_iff_toInt_le, ← Int32.toInt_inj, Int32.reduceToInt] at * <;> omega)))
    | exact bz_neg (by (first | omega | (simp only [Int32.lt_iff_toInt_lt, Int32.le_iff_toInt_le, ← Int32.toInt_inj, Int32.reduceToInt] at * <;> omega)))
    | ((repeat' split) <;> first | rfl | assumption | (symm; assumption) | (exfalso; (first | omega | (simp only [Int32.lt_iff_toInt_lt, Int32.le_iff_toInt_le, ← Int32.toInt_inj, Int32.reduceToInt] at * <;> omega))))
theorem pp_X5_sheet_0_3 (v0 : Int32) (v1 : Int32) (v2 : Int32) (fn : Nat → Option Nat) (p_4 : 0 ≤ v0 ∧ v0 ≤ 3) (c_6 : ¬ (v1 < (-1))) (c_7 : v1 ≤ 2) (c_8 : ¬ (v1 = (-1))) (c_9 : v2 ≤ 40) (c_10 : 0 ≤ v2) : (1 : Int32) = (if (0 ≤ v0 ∧ v0 ≤ 3) ∧ (-1 ≤ v1 ∧ v1 ≤ 2) then (if v1 = -1 then 1 else if 40 < v2 then -2 else if v2 < 0 then -14 else 1) else -2) := by
  first
    | rfl
    | exact bz_pos (by (first | omega | (simp only [Int32.lt_iff_toInt_lt, Int32.le_iff_toInt_le, ← Int32.toInt_inj, Int32.reduceToInt] at * <;> omega)))
    | exact bz_neg (by (first | omega | (simp only [Int32.lt_iff_toInt_lt, Int32.le_iff_toInt_le, ← Int32.toInt_inj, Int32.reduceToInt] at * <;> omega)))
    | ((repeat' split) <;> first | rfl | assumption | (symm; assumption) | (exfalso; (first | omega | (simp only [Int32.lt_iff_toInt_lt, Int32.le_iff_toInt_le, ← Int32.toInt_inj, Int32.reduceToInt] at * <;> omega))))
theorem pp_X5_sheet_0_4 (v0 : Int32) (v1 : Int32) (v2 : Int32) (fn : Nat → Option Nat) (p_4 : 0 ≤ v0 ∧ v0 ≤ 3) (c_6 : ¬ (v1 < (-1))) (c_7 : v1 ≤ 2) (c_8 : ¬ (v1 = (-1))) (c_9 : v2 ≤ 40) (c_10 : ¬ (0 ≤ v2)) : ((-14) : Int32) = (if (0 ≤ v0 ∧ v0 ≤ 3) ∧ (-1 ≤ v1 ∧ v1 ≤ 2) then (if v1 = -1 then 1 else if 40 < v2 then -2 else if v2 < 0 then -14 else 1) else -2) := by
  first
    | rfl
    | exact bz_pos (by (first | omega | (simp only [Int32.lt_iff_toInt_lt, Int32.le_iff_toInt_le, ← Int32.toInt_inj, Int32.reduceToInt] at * <;> omega)))
    | exact bz_neg (by (first | omega | (simp only [Int32.lt_iff_toInt_lt, Int32.le_iff_toInt_le, ← Int32.toInt_inj, Int32.reduceToInt] at * <;> omega)))
    | ((repeat' split) <;> first | rfl | assumption | (symm; assumption) | (exfalso; (first | omega | (simp only [Int32.lt_iff_toInt_lt, Int32.le_iff_toInt_le, ← Int32.toInt_inj, Int32.reduceToInt] at * <;> omega))))
theorem pp_X5_sheet_0_5 (v0 : Int32) (v1 : Int32) (v2 : Int32) (fn : Nat → Option Nat) (p_4 : 0 ≤ v0 ∧ v0 ≤ 3) (c_6 : ¬ (v1 < (-1))) (c_7 : v1 ≤ 2) (c_8 : ¬ (v1 = (-1))) (c_9 : ¬ (v2 ≤ 40)) : ((-2) : Int32) = (if (0 ≤ v0 ∧ v0 ≤ 3) ∧ (-1 ≤ v1 ∧ v1 ≤ 2) then (if v1 = -1 then 1 else if 40 < v2 then -2 else if v2 < 0 then -14 else 1) else -2) := by
  first
    | rfl
    | exact bz_pos (by (first | omega | (simp only [Int32.lt_iff_toInt_lt, Int32.le_iff_toInt_le, ← Int32.toInt_inj, Int32.reduceToInt] at * <;> omega)))
    | exact bz_neg (by (first | omega | (simp only [Int32.lt_iff_toInt_lt, Int32.le_iff_toInt_le, ← Int32.toInt_inj, Int32.reduceToInt] at * <;> omega)))
    | ((repeat' split) <;> first | rfl | assumption | (symm; assumption) | (exfalso; (first | omega | (simp only [Int32.lt_iff_toInt_lt, Int32.le_iff_toInt_le, ← Int32.toInt_inj, Int32.reduceToInt] at * <;> omega))))
theorem pp_X5_sheet_0_6 (v0 : Int32) (v1 : Int32) (v2 : Int32) (fn : Nat → Option Nat) (p_4 : 0 ≤ v0 ∧ v0 ≤ 3) (c_6 : ¬ (v1 < (-1))) (c_7 : v1 ≤ 2) (c_8 : v1 = (-1)) : (1 : Int32) = (if (0 ≤ v0 ∧ v0 ≤ 3) ∧ (-1 ≤ v1 ∧ v1 ≤ 2) then (if v1 = -1 then 1 else if 40 < v2 then -2 else if v2 < 0 then -14 else 1) else -2) := by
  first
    | rfl
    | exact bz_pos (by (first | omega | (simp only [Int32.lt_iff_toInt_lt, Int32.le_iff_toInt_le, ← Int32.toInt_inj, Int32.reduceToInt] at * <;> omega)))
    | exact bz_neg (by (first | omega | (simp only [Int32.lt_iff_toInt_lt, Int32.le_iff_toInt_le, ← Int32.toInt_inj, Int32.reduceToInt] at * <;> omega)))
    | ((repeat' split) <;> first | rfl | assumption | (symm; assumption) | (exfalso; (first | omega | (simp only [Int32.lt_iff_toInt_lt, Int32.le_iff_toInt_le, ← Int32.toInt_inj, Int32.reduceToInt] at * <;> omega))))
theorem pp_X5_sheet_0_7 (v0 : Int32) (v1 : Int32) (v2 : Int32) (fn : Nat → Option Nat) (p_4 : 0 ≤ v0 ∧ v0 ≤ 3) (c_6 : ¬ (v1 < (-1))) (c_7 : ¬ (v1 ≤ 2)) : ((-2) : Int32) = (if (0 ≤ v0 ∧ v0 ≤ 3) ∧ (-1 ≤ v1 ∧ v1 ≤ 2) then (if v1 = -1 then 1 else if 40 < v2 then -2 else if v2 < 0 then -14 else 1) else -2) := by
  first
    | rfl
    | exact bz_pos (by (first | omega | (simp only [Int32.lt_iff_toInt_lt, Int32.le_iff_toInt_le, ← Int32.toInt_inj, Int32.reduceToInt] at * <;> omega)))
    | exact bz_neg (by (first | omega | (simp only [Int32.lt_iff_toInt_lt, Int32.le_iff_toInt_le, ← Int32.toInt_inj, Int32.reduceToInt] at * <;> omega)))
    | ((repeat' split) <;> first | rfl | assumption | (symm; assumption) | (exfalso; (first | omega | (simp only [Int32.lt_iff_toInt_lt, Int32.le_iff_toInt_le, ← Int32.toInt_inj, Int32.reduceToInt] at * <;> omega))))
abbrev q_X5_sheet_0 (G : gG) (E : gS) (h0 tt rd nw th kp sh tu qn qo ql r0 r1 r2 r3 : Nat) (v0 : Int32) (v1 : Int32) (v2 : Int32) (fn : Nat → Option Nat) (A : Nat → Prop) : Array Value → State → Outcome → State → Prop := va_Qi (fun (r : Int32) (u : Unit) => match u with | _ => r = (if (0 ≤ v0 ∧ v0 ≤ 3) ∧ (-1 ≤ v1 ∧ v1 ≤ 2) then (if v1 = -1 then 1 else if 40 < v2 then -2 else if v2 < 0 then -14 else 1) else -2)) (fun (u : Unit) t => match u with | _ => True) A
set_option maxHeartbeats 4000000 in
set_option maxRecDepth 100000 in
theorem c_X5_sheet_0 (l : Launch) (G : gG) (E : gS) (h0 tt rd nw th kp sh tu qn qo ql r0 r1 r2 r3 : Nat) (v0 : Int32) (v1 : Int32) (v2 : Int32) (fn : Nat → Option Nat) (sz : Nat) (hr0 : fn 0 = some r0) (hr1 : fn 1 = some r1) (hr2 : fn 2 = some r2) (hr3 : fn 3 = some r3) : Met l yX5_sheet wsX5_sheet ({ frames := 2, cells := 0, slots := 0, locals := 46 }) (gPreE G E [.ref h0, .int v0, .int v1, .int v2] [(h0, .inr (5, [.ref tt, .ref rd, .ref nw, .ref th, .ref kp, .ref sh, .ref tu, .int 0])), (sh, .inr (2, [.ref qn, .ref qo, .ref ql])), (qn, .inl (G.2.2.2, 4, .inr (.inr (.inr (.inr fn))))), (r0, .inl (G.2.1, 40, .inl (fun _ => 0))), (r1, .inl (G.2.1, 40, .inl (fun _ => 0))), (r2, .inl (G.2.1, 40, .inl (fun _ => 0))), (r3, .inl (G.2.1, 40, .inl (fun _ => 0))), (qo, .inl (G.2.1, 4, .inl (gFl (-1) (fun _ => 0) 4))), (ql, .inl (G.2.1, 4, .inl (fun _ => 0)))] sz) (q_X5_sheet_0 G E h0 tt rd nw th kp sh tu qn qo ql r0 r1 r2 r3 v0 v1 v2 fn (va_A [(h0, .inr (5, [.ref tt, .ref rd, .ref nw, .ref th, .ref kp, .ref sh, .ref tu, .int 0])), (sh, .inr (2, [.ref qn, .ref qo, .ref ql])), (qn, .inl (G.2.2.2, 4, .inr (.inr (.inr (.inr fn))))), (r0, .inl (G.2.1, 40, .inl (fun _ => 0))), (r1, .inl (G.2.1, 40, .inl (fun _ => 0))), (r2, .inl (G.2.1, 40, .inl (fun _ => 0))), (r3, .inl (G.2.1, 40, .inl (fun _ => 0))), (qo, .inl (G.2.1, 4, .inl (gFl (-1) (fun _ => 0) 4))), (ql, .inl (G.2.1, 4, .inl (fun _ => 0)))] sz)) 0 0 (va_A [(h0, .inr (5, [.ref tt, .ref rd, .ref nw, .ref th, .ref kp, .ref sh, .ref tu, .int 0])), (sh, .inr (2, [.ref qn, .ref qo, .ref ql])), (qn, .inl (G.2.2.2, 4, .inr (.inr (.inr (.inr fn))))), (r0, .inl (G.2.1, 40, .inl (fun _ => 0))), (r1, .inl (G.2.1, 40, .inl (fun _ => 0))), (r2, .inl (G.2.1, 40, .inl (fun _ => 0))), (r3, .inl (G.2.1, 40, .inl (fun _ => 0))), (qo, .inl (G.2.1, 4, .inl (gFl (-1) (fun _ => 0) 4))), (ql, .inl (G.2.1, 4, .inl (fun _ => 0)))] sz) := by
  refine Met.ofW (cc := cX5_sheet) (maxL := 4) (ret := (some .int)) (by decide) rfl ?_
  intro p e s m args below meth c s₁ B hml hv
  obtain ⟨rfl, hsz, hP, hK, hD0, hE⟩ := hv
  have hx := B.exec
  have hb := B.bytes
  have hr := B.returns
  have hts := atoms_spec (ws := wsX5_sheet) B.pre
  have hown : s.vm.findClass RX5 = some m.cls := findClass_of_methodNamed B.named
  have hlocks := B.notSynchronized
  subst hsz
  have hD := hD0.self (sz := s.heap.size)
  generalize hAe : va_A [(h0, .inr (5, [.ref tt, .ref rd, .ref nw, .ref th, .ref kp, .ref sh, .ref tu, .int 0])), (sh, .inr (2, [.ref qn, .ref qo, .ref ql])), (qn, .inl (G.2.2.2, 4, .inr (.inr (.inr (.inr fn))))), (r0, .inl (G.2.1, 40, .inl (fun _ => 0))), (r1, .inl (G.2.1, 40, .inl (fun _ => 0))), (r2, .inl (G.2.1, 40, .inl (fun _ => 0))), (r3, .inl (G.2.1, 40, .inl (fun _ => 0))), (qo, .inl (G.2.1, 4, .inl (gFl (-1) (fun _ => 0) 4))), (ql, .inl (G.2.1, 4, .inl (fun _ => 0)))] s.heap.size = A at hD hE ⊢
  have hA : ∀ q : Nat, s.heap.size ≤ q → A q := fun q h => by rw [← hAe]; exact Or.inr h
  have hS : va_S A s.heap s.heap [] := va_S.rf
  have hP : va_P G.1 vwCl [(h0, .inr (5, [.ref tt, .ref rd, .ref nw, .ref th, .ref kp, .ref sh, .ref tu, .int 0])), (sh, .inr (2, [.ref qn, .ref qo, .ref ql])), (qn, .inl (G.2.2.2, 4, .inr (.inr (.inr (.inr fn))))), (r0, .inl (G.2.1, 40, .inl (fun _ => 0))), (r1, .inl (G.2.1, 40, .inl (fun _ => 0))), (r2, .inl (G.2.1, 40, .inl (fun _ => 0))), (r3, .inl (G.2.1, 40, .inl (fun _ => 0))), (qo, .inl (G.2.1, 4, .inl (gFl (-1) (fun _ => 0) 4))), (ql, .inl (G.2.1, 4, .inl (fun _ => 0)))] s.heap := hP
  have hD : va_D A [(h0, .inr (5, [.ref tt, .ref rd, .ref nw, .ref th, .ref kp, .ref sh, .ref tu, .int 0])), (sh, .inr (2, [.ref qn, .ref qo, .ref ql])), (qn, .inl (G.2.2.2, 4, .inr (.inr (.inr (.inr fn))))), (r0, .inl (G.2.1, 40, .inl (fun _ => 0))), (r1, .inl (G.2.1, 40, .inl (fun _ => 0))), (r2, .inl (G.2.1, 40, .inl (fun _ => 0))), (r3, .inl (G.2.1, 40, .inl (fun _ => 0))), (qo, .inl (G.2.1, 4, .inl (gFl (-1) (fun _ => 0) 4))), (ql, .inl (G.2.1, 4, .inl (fun _ => 0)))] := hD
  have hl := lv_entry ([.ref h0, .int v0, .int v1, .int v2]) (n := 4) (Nat.le_of_ble_eq_true rfl)
  rw [lg_entry_eq]
  generalize (lg_sl ([.ref h0, .int v0, .int v1, .int v2]) ++ List.replicate (4 - (lg_sl ([.ref h0, .int v0, .int v1, .int v2])).length) Slot.unset).toArray = ls at hl ⊢
  have hl : lv_has ls 4 [(0, .ref h0), (1, .int v0), (2, .int v1), (3, .int v2)] := hl
  have kf41 := hts (.fieldLink RX5 41 "PebbleInShoe" "rows" "LPebbleInShoe$Sheets;") (by decide +kernel)
  have hiX5 := (by decide +kernel : ∀ w ∈ wsX50, w ∈ wsX5_sheet)
  refine lv_aload_n hx hb dX5_sheet_0 rfl (lv_at hl 0 rfl) ?_
  refine va_get (D := G.1) (ci := 5) (v := .ref sh) (C := RX5) (T := TX5) (N := 8) hx hb hts hiX5 hown hK hP 0 rfl rfl 5 (by decide) kf41 (fun _ h9 => h9) rfl dX5_sheet_1 ?_
  refine lv_iload_n hx hb dX5_sheet_4 rfl (lv_at hl 1 rfl) ?_
  have hPc : va_P G.1 vwCl [(sh, .inr (2, [.ref qn, .ref qo, .ref ql]))] s.heap := hP.sub [1] rfl
  have hDc : va_D A [(sh, .inr (2, [.ref qn, .ref qo, .ref ql]))] := hD.sub [1] (by decide) rfl
  have hFc := va_free (wc := [(sh, .inr (2, [.ref qn, .ref qo, .ref ql]))]) hD hS hA [1] rfl
  refine va_calli (va_runV (As := [.int v0]) (rest := []) ⟨hx, hb, hml, hown, hts⟩ (c_X2_isSheet l G E sh qn qo ql v0 s.heap.size) (cwV 1 hts gX5_sheet_X2_isSheet rfl rfl rfl (by decide +kernel) ⟨Nat.le_of_ble_eq_true rfl, Nat.le_of_ble_eq_true rfl⟩) ⟨gPreE_blind, va_recv hK hPc (ci := 2) (q0 := 0) rfl rfl, fun U hU hW => gPreE_of hU hW hK hPc hDc hE hS hFc⟩ rfl rfl hl.1 rfl (lv_room (Nat.le_of_ble_eq_true rfl)) dX5_sheet_5 ⟨Nat.le_of_ble_eq_true rfl, Nat.le_of_ble_eq_true rfl⟩) hS (fun q _ h => hFc q h) hFc (fun r_1 u t H locs ht hvm w_2 hB hz1 hk1 hS => ?_)
  obtain ⟨hP1, hK1, hD1⟩ := hB
  rw [ht] at hP1
  have hP1 : va_P G.1 vwCl [(sh, .inr (2, [.ref qn, .ref qo, .ref ql]))] H := hP1
  have hD1 : va_D (va_A [(sh, .inr (2, [.ref qn, .ref qo, .ref ql]))] s.heap.size) [(sh, .inr (2, [.ref qn, .ref qo, .ref ql]))] := hD1
  have w_2 : r_1 = bz (decide (0 ≤ v0 ∧ v0 ≤ 3)) := w_2
  obtain ⟨hP, hD⟩ := va_join (wr := [(h0, .inr (5, [.ref tt, .ref rd, .ref nw, .ref th, .ref kp, .ref sh, .ref tu, .int 0])), (qn, .inl (G.2.2.2, 4, .inr (.inr (.inr (.inr fn))))), (r0, .inl (G.2.1, 40, .inl (fun _ => 0))), (r1, .inl (G.2.1, 40, .inl (fun _ => 0))), (r2, .inl (G.2.1, 40, .inl (fun _ => 0))), (r3, .inl (G.2.1, 40, .inl (fun _ => 0))), (qo, .inl (G.2.1, 4, .inl (gFl (-1) (fun _ => 0) 4))), (ql, .inl (G.2.1, 4, .inl (fun _ => 0)))]) (w1 := [(sh, .inr (2, [.ref qn, .ref qo, .ref ql]))]) hP hD [1] [0, 2, 3, 4, 5, 6, 7, 8] rfl rfl (by decide) (by decide) hk1 hFc hP1 hD1
  have hP : va_P G.1 vwCl [(h0, .inr (5, [.ref tt, .ref rd, .ref nw, .ref th, .ref kp, .ref sh, .ref tu, .int 0])), (qn, .inl (G.2.2.2, 4, .inr (.inr (.inr (.inr fn))))), (r0, .inl (G.2.1, 40, .inl (fun _ => 0))), (r1, .inl (G.2.1, 40, .inl (fun _ => 0))), (r2, .inl (G.2.1, 40, .inl (fun _ => 0))), (r3, .inl (G.2.1, 40, .inl (fun _ => 0))), (qo, .inl (G.2.1, 4, .inl (gFl (-1) (fun _ => 0) 4))), (ql, .inl (G.2.1, 4, .inl (fun _ => 0))), (sh, .inr (2, [.ref qn, .ref qo, .ref ql]))] H := hP
  have hD : va_D A [(h0, .inr (5, [.ref tt, .ref rd, .ref nw, .ref th, .ref kp, .ref sh, .ref tu, .int 0])), (qn, .inl (G.2.2.2, 4, .inr (.inr (.inr (.inr fn))))), (r0, .inl (G.2.1, 40, .inl (fun _ => 0))), (r1, .inl (G.2.1, 40, .inl (fun _ => 0))), (r2, .inl (G.2.1, 40, .inl (fun _ => 0))), (r3, .inl (G.2.1, 40, .inl (fun _ => 0))), (qo, .inl (G.2.1, 4, .inl (gFl (-1) (fun _ => 0) 4))), (ql, .inl (G.2.1, 4, .inl (fun _ => 0))), (sh, .inr (2, [.ref qn, .ref qo, .ref ql]))] := hD
  refine lv_if_eq (tgt := 21) hx hb dX5_sheet_8 (by decide) (fun c_3 => ?_) (fun c_3 => ?_)
  · skip
    have n_5 : ¬ (0 ≤ v0 ∧ v0 ≤ 3) := of_decide_eq_false (bz_eq w_2 c_3)
    refine lv_bipush (v := -2) hx hb dX5_sheet_21 (by decide) ?_
    have hpost : (fun (r : Int32) (u : Unit) => match u with | _ => r = (if (0 ≤ v0 ∧ v0 ≤ 3) ∧ (-1 ≤ v1 ∧ v1 ≤ 2) then (if v1 = -1 then 1 else if 40 < v2 then -2 else if v2 < 0 then -14 else 1) else -2)) (-2) () := pp_X5_sheet_0_1 v0 v1 v2 fn n_5
    exact W.iret (v := (-2)) hx hb hr (fun t ht hW => ⟨⟨(-2), (), rfl, hpost, trivial⟩, hS.F ht⟩) hS.2.2 dX5_sheet_23
  · skip
    have p_4 : 0 ≤ v0 ∧ v0 ≤ 3 := of_decide_eq_true (bz_ne w_2 c_3)
    refine lv_iload_n hx hb dX5_sheet_11 rfl (lv_at hl 2 rfl) ?_
    refine lv_iconst (v := -1) hx hb dX5_sheet_12 (by decide) ?_
    refine lv_icmp_lt (tgt := 21) hx hb dX5_sheet_13 (by decide) (fun c_6 => ?_) (fun c_6 => ?_)
    · skip
      refine lv_bipush (v := -2) hx hb dX5_sheet_21 (by decide) ?_
      have hpost : (fun (r : Int32) (u : Unit) => match u with | _ => r = (if (0 ≤ v0 ∧ v0 ≤ 3) ∧ (-1 ≤ v1 ∧ v1 ≤ 2) then (if v1 = -1 then 1 else if 40 < v2 then -2 else if v2 < 0 then -14 else 1) else -2)) (-2) () := pp_X5_sheet_0_2 v0 v1 v2 fn p_4 c_6
      exact W.iret (v := (-2)) hx hb hr (fun t ht hW => ⟨⟨(-2), (), rfl, hpost, trivial⟩, hS.F ht⟩) hS.2.2 dX5_sheet_23
    · skip
      refine lv_iload_n hx hb dX5_sheet_16 rfl (lv_at hl 2 rfl) ?_
      refine lv_iconst (v := 2) hx hb dX5_sheet_17 (by decide) ?_
      refine lv_icmp_le (tgt := 24) hx hb dX5_sheet_18 (by decide) (fun c_7 => ?_) (fun c_7 => ?_)
      · skip
        refine lv_iload_n hx hb dX5_sheet_24 rfl (lv_at hl 2 rfl) ?_
        refine lv_iconst (v := -1) hx hb dX5_sheet_25 (by decide) ?_
        refine lv_icmp_ne (tgt := 41) hx hb dX5_sheet_26 (by decide) (fun c_8 => ?_) (fun c_8 => ?_)
        · skip
          refine lv_iload_n hx hb dX5_sheet_41 rfl (lv_at hl 3 rfl) ?_
          refine lv_bipush (v := 40) hx hb dX5_sheet_42 (by decide) ?_
          refine lv_icmp_le (tgt := 50) hx hb dX5_sheet_44 (by decide) (fun c_9 => ?_) (fun c_9 => ?_)
          · skip
            refine lv_iload_n hx hb dX5_sheet_50 rfl (lv_at hl 3 rfl) ?_
            refine lv_if_ge (tgt := 57) hx hb dX5_sheet_51 (by decide) (fun c_10 => ?_) (fun c_10 => ?_)
            · skip
              refine lv_aload_n hx hb dX5_sheet_57 rfl (lv_at hl 0 rfl) ?_
              refine va_get (D := G.1) (ci := 5) (v := .ref sh) (C := RX5) (T := TX5) (N := 8) hx hb hts hiX5 hown hK hP 0 rfl rfl 5 (by decide) kf41 (fun _ h9 => h9) rfl dX5_sheet_58 ?_
              refine lv_iload_n hx hb dX5_sheet_61 rfl (lv_at hl 1 rfl) ?_
              refine lv_iload_n hx hb dX5_sheet_62 rfl (lv_at hl 2 rfl) ?_
              refine lv_iload_n hx hb dX5_sheet_63 rfl (lv_at hl 3 rfl) ?_
              have hPc : va_P G.1 vwCl [(sh, .inr (2, [.ref qn, .ref qo, .ref ql])), (qn, .inl (G.2.2.2, 4, .inr (.inr (.inr (.inr fn))))), (r0, .inl (G.2.1, 40, .inl (fun _ => 0))), (r1, .inl (G.2.1, 40, .inl (fun _ => 0))), (r2, .inl (G.2.1, 40, .inl (fun _ => 0))), (r3, .inl (G.2.1, 40, .inl (fun _ => 0))), (qo, .inl (G.2.1, 4, .inl (gFl (-1) (fun _ => 0) 4))), (ql, .inl (G.2.1, 4, .inl (fun _ => 0)))] H := hP.sub [8, 1, 2, 3, 4, 5, 6, 7] rfl
              have hDc : va_D A [(sh, .inr (2, [.ref qn, .ref qo, .ref ql])), (qn, .inl (G.2.2.2, 4, .inr (.inr (.inr (.inr fn))))), (r0, .inl (G.2.1, 40, .inl (fun _ => 0))), (r1, .inl (G.2.1, 40, .inl (fun _ => 0))), (r2, .inl (G.2.1, 40, .inl (fun _ => 0))), (r3, .inl (G.2.1, 40, .inl (fun _ => 0))), (qo, .inl (G.2.1, 4, .inl (gFl (-1) (fun _ => 0) 4))), (ql, .inl (G.2.1, 4, .inl (fun _ => 0)))] := hD.sub [8, 1, 2, 3, 4, 5, 6, 7] (by decide) rfl
              have hFc := va_free (wc := [(sh, .inr (2, [.ref qn, .ref qo, .ref ql])), (qn, .inl (G.2.2.2, 4, .inr (.inr (.inr (.inr fn))))), (r0, .inl (G.2.1, 40, .inl (fun _ => 0))), (r1, .inl (G.2.1, 40, .inl (fun _ => 0))), (r2, .inl (G.2.1, 40, .inl (fun _ => 0))), (r3, .inl (G.2.1, 40, .inl (fun _ => 0))), (qo, .inl (G.2.1, 4, .inl (gFl (-1) (fun _ => 0) 4))), (ql, .inl (G.2.1, 4, .inl (fun _ => 0)))]) hD hS hA [8, 1, 2, 3, 4, 5, 6, 7] rfl
              refine va_callv (va_runV (As := [.int v0, .int v1, .int v2]) (rest := []) ⟨hx, hb, hml, hown, hts⟩ (c_X2_become_0 l G sh qn qo ql r0 r1 r2 r3 v0 v1 v2 fn H.size (by assumption) (hr0) (hr1) (hr2) (hr3)) (cwV 3 hts gX5_sheet_X2_become rfl rfl rfl (by decide +kernel) ⟨Nat.le_of_ble_eq_true rfl, Nat.le_of_ble_eq_true rfl⟩) ⟨gPre_blind, va_recv hK hPc (ci := 2) (q0 := 0) rfl rfl, fun U hU hW => gPre_of hU hW hK hPc hDc⟩ rfl rfl hl.1 rfl (lv_room (Nat.le_of_ble_eq_true rfl)) dX5_sheet_64 ⟨Nat.le_of_ble_eq_true rfl, Nat.le_of_ble_eq_true rfl⟩) hS (fun q _ h => hFc q h) hFc (fun u t H locs ht hvm w_12 hB hz1 hk1 hS => ?_)
              obtain ⟨y0_13, y1_14, y2_15, y3_16, yo_17, yl_18⟩ := u
              obtain ⟨hP1, hK1, hD1⟩ := hB
              rw [ht] at hP1
              have hP1 : va_P G.1 vwCl [(sh, .inr (2, [.ref qn, .ref qo, .ref ql])), (qn, .inl (G.2.2.2, 4, .inr (.inr (.inr (.inr fn))))), (r0, .inl (G.2.1, 40, .inl y0_13)), (r1, .inl (G.2.1, 40, .inl y1_14)), (r2, .inl (G.2.1, 40, .inl y2_15)), (r3, .inl (G.2.1, 40, .inl y3_16)), (qo, .inl (G.2.1, 4, .inl yo_17)), (ql, .inl (G.2.1, 4, .inl yl_18))] H := hP1
              have hD1 : va_D (va_A [(sh, .inr (2, [.ref qn, .ref qo, .ref ql])), (qn, .inl (G.2.2.2, 4, .inr (.inr (.inr (.inr fn))))), (r0, .inl (G.2.1, 40, .inl (fun _ => 0))), (r1, .inl (G.2.1, 40, .inl (fun _ => 0))), (r2, .inl (G.2.1, 40, .inl (fun _ => 0))), (r3, .inl (G.2.1, 40, .inl (fun _ => 0))), (qo, .inl (G.2.1, 4, .inl (gFl (-1) (fun _ => 0) 4))), (ql, .inl (G.2.1, 4, .inl (fun _ => 0)))] _) [(sh, .inr (2, [.ref qn, .ref qo, .ref ql])), (qn, .inl (G.2.2.2, 4, .inr (.inr (.inr (.inr fn))))), (r0, .inl (G.2.1, 40, .inl y0_13)), (r1, .inl (G.2.1, 40, .inl y1_14)), (r2, .inl (G.2.1, 40, .inl y2_15)), (r3, .inl (G.2.1, 40, .inl y3_16)), (qo, .inl (G.2.1, 4, .inl yo_17)), (ql, .inl (G.2.1, 4, .inl yl_18))] := hD1
              obtain ⟨hP, hD⟩ := va_join (wr := [(h0, .inr (5, [.ref tt, .ref rd, .ref nw, .ref th, .ref kp, .ref sh, .ref tu, .int 0]))]) (w1 := [(sh, .inr (2, [.ref qn, .ref qo, .ref ql])), (qn, .inl (G.2.2.2, 4, .inr (.inr (.inr (.inr fn))))), (r0, .inl (G.2.1, 40, .inl y0_13)), (r1, .inl (G.2.1, 40, .inl y1_14)), (r2, .inl (G.2.1, 40, .inl y2_15)), (r3, .inl (G.2.1, 40, .inl y3_16)), (qo, .inl (G.2.1, 4, .inl yo_17)), (ql, .inl (G.2.1, 4, .inl yl_18))]) hP hD [8, 1, 2, 3, 4, 5, 6, 7] [0] rfl rfl (by decide) (by decide) hk1 hFc hP1 hD1
              have hP : va_P G.1 vwCl [(h0, .inr (5, [.ref tt, .ref rd, .ref nw, .ref th, .ref kp, .ref sh, .ref tu, .int 0])), (sh, .inr (2, [.ref qn, .ref qo, .ref ql])), (qn, .inl (G.2.2.2, 4, .inr (.inr (.inr (.inr fn))))), (r0, .inl (G.2.1, 40, .inl y0_13)), (r1, .inl (G.2.1, 40, .inl y1_14)), (r2, .inl (G.2.1, 40, .inl y2_15)), (r3, .inl (G.2.1, 40, .inl y3_16)), (qo, .inl (G.2.1, 4, .inl yo_17)), (ql, .inl (G.2.1, 4, .inl yl_18))] H := hP
              have hD : va_D A [(h0, .inr (5, [.ref tt, .ref rd, .ref nw, .ref th, .ref kp, .ref sh, .ref tu, .int 0])), (sh, .inr (2, [.ref qn, .ref qo, .ref ql])), (qn, .inl (G.2.2.2, 4, .inr (.inr (.inr (.inr fn))))), (r0, .inl (G.2.1, 40, .inl y0_13)), (r1, .inl (G.2.1, 40, .inl y1_14)), (r2, .inl (G.2.1, 40, .inl y2_15)), (r3, .inl (G.2.1, 40, .inl y3_16)), (qo, .inl (G.2.1, 4, .inl yo_17)), (ql, .inl (G.2.1, 4, .inl yl_18))] := hD
              refine lv_iconst (v := 1) hx hb dX5_sheet_67 (by decide) ?_
              have hpost : (fun (r : Int32) (u : Unit) => match u with | _ => r = (if (0 ≤ v0 ∧ v0 ≤ 3) ∧ (-1 ≤ v1 ∧ v1 ≤ 2) then (if v1 = -1 then 1 else if 40 < v2 then -2 else if v2 < 0 then -14 else 1) else -2)) 1 () := pp_X5_sheet_0_3 v0 v1 v2 fn p_4 c_6 c_7 c_8 c_9 c_10
              exact W.iret (v := 1) hx hb hr (fun t ht hW => ⟨⟨1, (), rfl, hpost, trivial⟩, hS.F ht⟩) hS.2.2 dX5_sheet_68
            · skip
              refine lv_bipush (v := -14) hx hb dX5_sheet_54 (by decide) ?_
              have hpost : (fun (r : Int32) (u : Unit) => match u with | _ => r = (if (0 ≤ v0 ∧ v0 ≤ 3) ∧ (-1 ≤ v1 ∧ v1 ≤ 2) then (if v1 = -1 then 1 else if 40 < v2 then -2 else if v2 < 0 then -14 else 1) else -2)) (-14) () := pp_X5_sheet_0_4 v0 v1 v2 fn p_4 c_6 c_7 c_8 c_9 c_10
              exact W.iret (v := (-14)) hx hb hr (fun t ht hW => ⟨⟨(-14), (), rfl, hpost, trivial⟩, hS.F ht⟩) hS.2.2 dX5_sheet_56
          · skip
            refine lv_bipush (v := -2) hx hb dX5_sheet_47 (by decide) ?_
            have hpost : (fun (r : Int32) (u : Unit) => match u with | _ => r = (if (0 ≤ v0 ∧ v0 ≤ 3) ∧ (-1 ≤ v1 ∧ v1 ≤ 2) then (if v1 = -1 then 1 else if 40 < v2 then -2 else if v2 < 0 then -14 else 1) else -2)) (-2) () := pp_X5_sheet_0_5 v0 v1 v2 fn p_4 c_6 c_7 c_8 c_9
            exact W.iret (v := (-2)) hx hb hr (fun t ht hW => ⟨⟨(-2), (), rfl, hpost, trivial⟩, hS.F ht⟩) hS.2.2 dX5_sheet_49
        · skip
          refine lv_aload_n hx hb dX5_sheet_29 rfl (lv_at hl 0 rfl) ?_
          refine va_get (D := G.1) (ci := 5) (v := .ref sh) (C := RX5) (T := TX5) (N := 8) hx hb hts hiX5 hown hK hP 0 rfl rfl 5 (by decide) kf41 (fun _ h9 => h9) rfl dX5_sheet_30 ?_
          refine lv_iload_n hx hb dX5_sheet_33 rfl (lv_at hl 1 rfl) ?_
          refine lv_iconst (v := -1) hx hb dX5_sheet_34 (by decide) ?_
          refine lv_iconst (v := 0) hx hb dX5_sheet_35 (by decide) ?_
          have hPc : va_P G.1 vwCl [(sh, .inr (2, [.ref qn, .ref qo, .ref ql])), (qn, .inl (G.2.2.2, 4, .inr (.inr (.inr (.inr fn))))), (r0, .inl (G.2.1, 40, .inl (fun _ => 0))), (r1, .inl (G.2.1, 40, .inl (fun _ => 0))), (r2, .inl (G.2.1, 40, .inl (fun _ => 0))), (r3, .inl (G.2.1, 40, .inl (fun _ => 0))), (qo, .inl (G.2.1, 4, .inl (gFl (-1) (fun _ => 0) 4))), (ql, .inl (G.2.1, 4, .inl (fun _ => 0)))] H := hP.sub [8, 1, 2, 3, 4, 5, 6, 7] rfl
          have hDc : va_D A [(sh, .inr (2, [.ref qn, .ref qo, .ref ql])), (qn, .inl (G.2.2.2, 4, .inr (.inr (.inr (.inr fn))))), (r0, .inl (G.2.1, 40, .inl (fun _ => 0))), (r1, .inl (G.2.1, 40, .inl (fun _ => 0))), (r2, .inl (G.2.1, 40, .inl (fun _ => 0))), (r3, .inl (G.2.1, 40, .inl (fun _ => 0))), (qo, .inl (G.2.1, 4, .inl (gFl (-1) (fun _ => 0) 4))), (ql, .inl (G.2.1, 4, .inl (fun _ => 0)))] := hD.sub [8, 1, 2, 3, 4, 5, 6, 7] (by decide) rfl
          have hFc := va_free (wc := [(sh, .inr (2, [.ref qn, .ref qo, .ref ql])), (qn, .inl (G.2.2.2, 4, .inr (.inr (.inr (.inr fn))))), (r0, .inl (G.2.1, 40, .inl (fun _ => 0))), (r1, .inl (G.2.1, 40, .inl (fun _ => 0))), (r2, .inl (G.2.1, 40, .inl (fun _ => 0))), (r3, .inl (G.2.1, 40, .inl (fun _ => 0))), (qo, .inl (G.2.1, 4, .inl (gFl (-1) (fun _ => 0) 4))), (ql, .inl (G.2.1, 4, .inl (fun _ => 0)))]) hD hS hA [8, 1, 2, 3, 4, 5, 6, 7] rfl
          refine va_callv (va_runV (As := [.int v0, .int (-1), .int 0]) (rest := []) ⟨hx, hb, hml, hown, hts⟩ (c_X2_become_0 l G sh qn qo ql r0 r1 r2 r3 v0 (-1) 0 fn H.size (by assumption) (hr0) (hr1) (hr2) (hr3)) (cwV 3 hts gX5_sheet_X2_become rfl rfl rfl (by decide +kernel) ⟨Nat.le_of_ble_eq_true rfl, Nat.le_of_ble_eq_true rfl⟩) ⟨gPre_blind, va_recv hK hPc (ci := 2) (q0 := 0) rfl rfl, fun U hU hW => gPre_of hU hW hK hPc hDc⟩ rfl rfl hl.1 rfl (lv_room (Nat.le_of_ble_eq_true rfl)) dX5_sheet_36 ⟨Nat.le_of_ble_eq_true rfl, Nat.le_of_ble_eq_true rfl⟩) hS (fun q _ h => hFc q h) hFc (fun u t H locs ht hvm w_20 hB hz1 hk1 hS => ?_)
          obtain ⟨y0_21, y1_22, y2_23, y3_24, yo_25, yl_26⟩ := u
          obtain ⟨hP1, hK1, hD1⟩ := hB
          rw [ht] at hP1
          have hP1 : va_P G.1 vwCl [(sh, .inr (2, [.ref qn, .ref qo, .ref ql])), (qn, .inl (G.2.2.2, 4, .inr (.inr (.inr (.inr fn))))), (r0, .inl (G.2.1, 40, .inl y0_21)), (r1, .inl (G.2.1, 40, .inl y1_22)), (r2, .inl (G.2.1, 40, .inl y2_23)), (r3, .inl (G.2.1, 40, .inl y3_24)), (qo, .inl (G.2.1, 4, .inl yo_25)), (ql, .inl (G.2.1, 4, .inl yl_26))] H := hP1
          have hD1 : va_D (va_A [(sh, .inr (2, [.ref qn, .ref qo, .ref ql])), (qn, .inl (G.2.2.2, 4, .inr (.inr (.inr (.inr fn))))), (r0, .inl (G.2.1, 40, .inl (fun _ => 0))), (r1, .inl (G.2.1, 40, .inl (fun _ => 0))), (r2, .inl (G.2.1, 40, .inl (fun _ => 0))), (r3, .inl (G.2.1, 40, .inl (fun _ => 0))), (qo, .inl (G.2.1, 4, .inl (gFl (-1) (fun _ => 0) 4))), (ql, .inl (G.2.1, 4, .inl (fun _ => 0)))] _) [(sh, .inr (2, [.ref qn, .ref qo, .ref ql])), (qn, .inl (G.2.2.2, 4, .inr (.inr (.inr (.inr fn))))), (r0, .inl (G.2.1, 40, .inl y0_21)), (r1, .inl (G.2.1, 40, .inl y1_22)), (r2, .inl (G.2.1, 40, .inl y2_23)), (r3, .inl (G.2.1, 40, .inl y3_24)), (qo, .inl (G.2.1, 4, .inl yo_25)), (ql, .inl (G.2.1, 4, .inl yl_26))] := hD1
          obtain ⟨hP, hD⟩ := va_join (wr := [(h0, .inr (5, [.ref tt, .ref rd, .ref nw, .ref th, .ref kp, .ref sh, .ref tu, .int 0]))]) (w1 := [(sh, .inr (2, [.ref qn, .ref qo, .ref ql])), (qn, .inl (G.2.2.2, 4, .inr (.inr (.inr (.inr fn))))), (r0, .inl (G.2.1, 40, .inl y0_21)), (r1, .inl (G.2.1, 40, .inl y1_22)), (r2, .inl (G.2.1, 40, .inl y2_23)), (r3, .inl (G.2.1, 40, .inl y3_24)), (qo, .inl (G.2.1, 4, .inl yo_25)), (ql, .inl (G.2.1, 4, .inl yl_26))]) hP hD [8, 1, 2, 3, 4, 5, 6, 7] [0] rfl rfl (by decide) (by decide) hk1 hFc hP1 hD1
          have hP : va_P G.1 vwCl [(h0, .inr (5, [.ref tt, .ref rd, .ref nw, .ref th, .ref kp, .ref sh, .ref tu, .int 0])), (sh, .inr (2, [.ref qn, .ref qo, .ref ql])), (qn, .inl (G.2.2.2, 4, .inr (.inr (.inr (.inr fn))))), (r0, .inl (G.2.1, 40, .inl y0_21)), (r1, .inl (G.2.1, 40, .inl y1_22)), (r2, .inl (G.2.1, 40, .inl y2_23)), (r3, .inl (G.2.1, 40, .inl y3_24)), (qo, .inl (G.2.1, 4, .inl yo_25)), (ql, .inl (G.2.1, 4, .inl yl_26))] H := hP
          have hD : va_D A [(h0, .inr (5, [.ref tt, .ref rd, .ref nw, .ref th, .ref kp, .ref sh, .ref tu, .int 0])), (sh, .inr (2, [.ref qn, .ref qo, .ref ql])), (qn, .inl (G.2.2.2, 4, .inr (.inr (.inr (.inr fn))))), (r0, .inl (G.2.1, 40, .inl y0_21)), (r1, .inl (G.2.1, 40, .inl y1_22)), (r2, .inl (G.2.1, 40, .inl y2_23)), (r3, .inl (G.2.1, 40, .inl y3_24)), (qo, .inl (G.2.1, 4, .inl yo_25)), (ql, .inl (G.2.1, 4, .inl yl_26))] := hD
          refine lv_iconst (v := 1) hx hb dX5_sheet_39 (by decide) ?_
          have hpost : (fun (r : Int32) (u : Unit) => match u with | _ => r = (if (0 ≤ v0 ∧ v0 ≤ 3) ∧ (-1 ≤ v1 ∧ v1 ≤ 2) then (if v1 = -1 then 1 else if 40 < v2 then -2 else if v2 < 0 then -14 else 1) else -2)) 1 () := pp_X5_sheet_0_6 v0 v1 v2 fn p_4 c_6 c_7 c_8
          exact W.iret (v := 1) hx hb hr (fun t ht hW => ⟨⟨1, (), rfl, hpost, trivial⟩, hS.F ht⟩) hS.2.2 dX5_sheet_40
      · skip
        refine lv_bipush (v := -2) hx hb dX5_sheet_21 (by decide) ?_
        have hpost : (fun (r : Int32) (u : Unit) => match u with | _ => r = (if (0 ≤ v0 ∧ v0 ≤ 3) ∧ (-1 ≤ v1 ∧ v1 ≤ 2) then (if v1 = -1 then 1 else if 40 < v2 then -2 else if v2 < 0 then -14 else 1) else -2)) (-2) () := pp_X5_sheet_0_7 v0 v1 v2 fn p_4 c_6 c_7
        exact W.iret (v := (-2)) hx hb hr (fun t ht hW => ⟨⟨(-2), (), rfl, hpost, trivial⟩, hS.F ht⟩) hS.2.2 dX5_sheet_23
theorem pp_X5_cell_0_1 (v0 : Int32) (v1 : Int32) (v2 : Int32) (p_4 : 0 ≤ v0 ∧ v0 ≤ 3) : ((-11) : Int32) = (if 0 ≤ v0 ∧ v0 ≤ 3 then -11 else -2) := by
  first
    | rfl
    | exact bz_pos (by (first | omega | (simp only [Int32.lt_iff_toInt_lt, Int32.le_iff_toInt_le, ← Int32.toInt_inj, Int32.reduceToInt] at * <;> omega)))
    | exact bz_neg (by (first | omega | (simp only [Int32.lt_iff_toInt_lt, Int32.le_iff_toInt_le, ← Int32.toInt_inj, Int32.reduceToInt] at * <;> omega)))
    | ((repeat' split) <;> first | rfl | assumption | (symm; assumption) | (exfalso; (first | omega | (simp only [Int32.lt_iff_toInt_lt, Int32.le_iff_toInt_le, ← Int32.toInt_inj, Int32.reduceToInt] at * <;> omega))))
theorem pp_X5_cell_0_2 (v0 : Int32) (v1 : Int32) (v2 : Int32) (n_5 : ¬ (0 ≤ v0 ∧ v0 ≤ 3)) : ((-2) : Int32) = (if 0 ≤ v0 ∧ v0 ≤ 3 then -11 else -2) := by
  first
    | rfl
    | exact bz_pos (by (first | omega | (simp only [Int32.lt_iff_toInt_lt, Int32.le_iff_toInt_le, ← Int32.toInt_inj, Int32.reduceToInt] at * <;> omega)))
    | exact bz_neg (by (first | omega | (simp only [Int32.lt_iff_toInt_lt, Int32.le_iff_toInt_le, ← Int32.toInt_inj, Int32.reduceToInt] at * <;> omega)))
    | ((repeat' split) <;> first | rfl | assumption | (symm; assumption) | (exfalso; (first | omega | (simp only [Int32.lt_iff_toInt_lt, Int32.le_iff_toInt_le, ← Int32.toInt_inj, Int32.reduceToInt] at * <;> omega))))
abbrev q_X5_cell_0 (G : gG) (E : gS) (h0 tt rd nw th kp sh tu qn qo ql : Nat) (v0 : Int32) (v1 : Int32) (v2 : Int32) (A : Nat → Prop) : Array Value → State → Outcome → State → Prop := va_Qi (fun (r : Int32) (u : Unit) => match u with | _ => r = (if 0 ≤ v0 ∧ v0 ≤ 3 then -11 else -2)) (fun (u : Unit) t => match u with | _ => True) A
set_option maxHeartbeats 4000000 in
set_option maxRecDepth 100000 in
theorem c_X5_cell_0 (l : Launch) (G : gG) (E : gS) (h0 tt rd nw th kp sh tu qn qo ql : Nat) (v0 : Int32) (v1 : Int32) (v2 : Int32) (sz : Nat) : Met l yX5_cell wsX5_cell ({ frames := 2, cells := 0, slots := 0, locals := 42 }) (gPreE G E [.ref h0, .int v0, .int v1, .int v2] [(h0, .inr (5, [.ref tt, .ref rd, .ref nw, .ref th, .ref kp, .ref sh, .ref tu, .int 0])), (sh, .inr (2, [.ref qn, .ref qo, .ref ql])), (qo, .inl (G.2.1, 4, .inl (gFl (-1) (fun _ => 0) 4)))] sz) (q_X5_cell_0 G E h0 tt rd nw th kp sh tu qn qo ql v0 v1 v2 (va_A [(h0, .inr (5, [.ref tt, .ref rd, .ref nw, .ref th, .ref kp, .ref sh, .ref tu, .int 0])), (sh, .inr (2, [.ref qn, .ref qo, .ref ql])), (qo, .inl (G.2.1, 4, .inl (gFl (-1) (fun _ => 0) 4)))] sz)) 0 0 (va_A [(h0, .inr (5, [.ref tt, .ref rd, .ref nw, .ref th, .ref kp, .ref sh, .ref tu, .int 0])), (sh, .inr (2, [.ref qn, .ref qo, .ref ql])), (qo, .inl (G.2.1, 4, .inl (gFl (-1) (fun _ => 0) 4)))] sz) := by
  refine Met.ofW (cc := cX5_cell) (maxL := 4) (ret := (some .int)) (by decide) rfl ?_
  intro p e s m args below meth c s₁ B hml hv
  obtain ⟨rfl, hsz, hP, hK, hD0, hE⟩ := hv
  have hx := B.exec
  have hb := B.bytes
  have hr := B.returns
  have hts := atoms_spec (ws := wsX5_cell) B.pre
  have hown : s.vm.findClass RX5 = some m.cls := findClass_of_methodNamed B.named
  have hlocks := B.notSynchronized
  subst hsz
  have hD := hD0.self (sz := s.heap.size)
  generalize hAe : va_A [(h0, .inr (5, [.ref tt, .ref rd, .ref nw, .ref th, .ref kp, .ref sh, .ref tu, .int 0])), (sh, .inr (2, [.ref qn, .ref qo, .ref ql])), (qo, .inl (G.2.1, 4, .inl (gFl (-1) (fun _ => 0) 4)))] s.heap.size = A at hD hE ⊢
  have hA : ∀ q : Nat, s.heap.size ≤ q → A q := fun q h => by rw [← hAe]; exact Or.inr h
  have hS : va_S A s.heap s.heap [] := va_S.rf
  have hP : va_P G.1 vwCl [(h0, .inr (5, [.ref tt, .ref rd, .ref nw, .ref th, .ref kp, .ref sh, .ref tu, .int 0])), (sh, .inr (2, [.ref qn, .ref qo, .ref ql])), (qo, .inl (G.2.1, 4, .inl (gFl (-1) (fun _ => 0) 4)))] s.heap := hP
  have hD : va_D A [(h0, .inr (5, [.ref tt, .ref rd, .ref nw, .ref th, .ref kp, .ref sh, .ref tu, .int 0])), (sh, .inr (2, [.ref qn, .ref qo, .ref ql])), (qo, .inl (G.2.1, 4, .inl (gFl (-1) (fun _ => 0) 4)))] := hD
  have hl := lv_entry ([.ref h0, .int v0, .int v1, .int v2]) (n := 4) (Nat.le_of_ble_eq_true rfl)
  rw [lg_entry_eq]
  generalize (lg_sl ([.ref h0, .int v0, .int v1, .int v2]) ++ List.replicate (4 - (lg_sl ([.ref h0, .int v0, .int v1, .int v2])).length) Slot.unset).toArray = ls at hl ⊢
  have hl : lv_has ls 4 [(0, .ref h0), (1, .int v0), (2, .int v1), (3, .int v2)] := hl
  have kf41 := hts (.fieldLink RX5 41 "PebbleInShoe" "rows" "LPebbleInShoe$Sheets;") (by decide +kernel)
  have hiX5 := (by decide +kernel : ∀ w ∈ wsX50, w ∈ wsX5_cell)
  have kf225 := hts (.fieldLink RX5 225 "PebbleInShoe$Sheets" "sorts" "[I") (by decide +kernel)
  have hiX2 := (by decide +kernel : ∀ w ∈ wsX20, w ∈ wsX5_cell)
  refine lv_aload_n hx hb dX5_cell_0 rfl (lv_at hl 0 rfl) ?_
  refine va_get (D := G.1) (ci := 5) (v := .ref sh) (C := RX5) (T := TX5) (N := 8) hx hb hts hiX5 hown hK hP 0 rfl rfl 5 (by decide) kf41 (fun _ h9 => h9) rfl dX5_cell_1 ?_
  refine lv_iload_n hx hb dX5_cell_4 rfl (lv_at hl 1 rfl) ?_
  have hPc : va_P G.1 vwCl [(sh, .inr (2, [.ref qn, .ref qo, .ref ql]))] s.heap := hP.sub [1] rfl
  have hDc : va_D A [(sh, .inr (2, [.ref qn, .ref qo, .ref ql]))] := hD.sub [1] (by decide) rfl
  have hFc := va_free (wc := [(sh, .inr (2, [.ref qn, .ref qo, .ref ql]))]) hD hS hA [1] rfl
  refine va_calli (va_runV (As := [.int v0]) (rest := []) ⟨hx, hb, hml, hown, hts⟩ (c_X2_isSheet l G E sh qn qo ql v0 s.heap.size) (cwV 1 hts gX5_cell_X2_isSheet rfl rfl rfl (by decide +kernel) ⟨Nat.le_of_ble_eq_true rfl, Nat.le_of_ble_eq_true rfl⟩) ⟨gPreE_blind, va_recv hK hPc (ci := 2) (q0 := 0) rfl rfl, fun U hU hW => gPreE_of hU hW hK hPc hDc hE hS hFc⟩ rfl rfl hl.1 rfl (lv_room (Nat.le_of_ble_eq_true rfl)) dX5_cell_5 ⟨Nat.le_of_ble_eq_true rfl, Nat.le_of_ble_eq_true rfl⟩) hS (fun q _ h => hFc q h) hFc (fun r_1 u t H locs ht hvm w_2 hB hz1 hk1 hS => ?_)
  obtain ⟨hP1, hK1, hD1⟩ := hB
  rw [ht] at hP1
  have hP1 : va_P G.1 vwCl [(sh, .inr (2, [.ref qn, .ref qo, .ref ql]))] H := hP1
  have hD1 : va_D (va_A [(sh, .inr (2, [.ref qn, .ref qo, .ref ql]))] s.heap.size) [(sh, .inr (2, [.ref qn, .ref qo, .ref ql]))] := hD1
  have w_2 : r_1 = bz (decide (0 ≤ v0 ∧ v0 ≤ 3)) := w_2
  obtain ⟨hP, hD⟩ := va_join (wr := [(h0, .inr (5, [.ref tt, .ref rd, .ref nw, .ref th, .ref kp, .ref sh, .ref tu, .int 0])), (qo, .inl (G.2.1, 4, .inl (gFl (-1) (fun _ => 0) 4)))]) (w1 := [(sh, .inr (2, [.ref qn, .ref qo, .ref ql]))]) hP hD [1] [0, 2] rfl rfl (by decide) (by decide) hk1 hFc hP1 hD1
  have hP : va_P G.1 vwCl [(h0, .inr (5, [.ref tt, .ref rd, .ref nw, .ref th, .ref kp, .ref sh, .ref tu, .int 0])), (qo, .inl (G.2.1, 4, .inl (gFl (-1) (fun _ => 0) 4))), (sh, .inr (2, [.ref qn, .ref qo, .ref ql]))] H := hP
  have hD : va_D A [(h0, .inr (5, [.ref tt, .ref rd, .ref nw, .ref th, .ref kp, .ref sh, .ref tu, .int 0])), (qo, .inl (G.2.1, 4, .inl (gFl (-1) (fun _ => 0) 4))), (sh, .inr (2, [.ref qn, .ref qo, .ref ql]))] := hD
  refine lv_if_ne (tgt := 14) hx hb dX5_cell_8 (by decide) (fun c_3 => ?_) (fun c_3 => ?_)
  · skip
    have p_4 : 0 ≤ v0 ∧ v0 ≤ 3 := of_decide_eq_true (bz_ne w_2 c_3)
    refine lv_aload_n hx hb dX5_cell_14 rfl (lv_at hl 0 rfl) ?_
    refine va_get (D := G.1) (ci := 5) (v := .ref sh) (C := RX5) (T := TX5) (N := 8) hx hb hts hiX5 hown hK hP 0 rfl rfl 5 (by decide) kf41 (fun _ h9 => h9) rfl dX5_cell_15 ?_
    refine va_get (D := G.1) (ci := 2) (v := .ref qo) (C := RX2) (T := TX2) (N := 3) hx hb hts hiX2 hown hK hP 2 rfl rfl 1 (by decide) kf225 (fun _ h9 => h9) rfl dX5_cell_18 ?_
    refine lv_iload_n hx hb dX5_cell_21 rfl (lv_at hl 1 rfl) ?_
    refine va_iald (D := G.1) hx hb hK hP 1 0 rfl rfl (i := v0) (g_in3 (by assumption)) dX5_cell_22 ?_
    refine lv_topi (fun v_6 ev_6 => ?_)
    have ev_6 : v_6 = -1 := ev_6.trans (g_m1 (by assumption))
    subst ev_6
    refine lv_iconst (v := -1) hx hb dX5_cell_23 (by decide) ?_
    refine lv_icmp_ne (tgt := 30) hx hb dX5_cell_24 (by decide) (fun c_7 => ?_) (fun c_7 => ?_)
    · exact absurd (by decide) c_7
    refine lv_bipush (v := -11) hx hb dX5_cell_27 (by decide) ?_
    have hpost : (fun (r : Int32) (u : Unit) => match u with | _ => r = (if 0 ≤ v0 ∧ v0 ≤ 3 then -11 else -2)) (-11) () := pp_X5_cell_0_1 v0 v1 v2 p_4
    exact W.iret (v := (-11)) hx hb hr (fun t ht hW => ⟨⟨(-11), (), rfl, hpost, trivial⟩, hS.F ht⟩) hS.2.2 dX5_cell_29
  · skip
    have n_5 : ¬ (0 ≤ v0 ∧ v0 ≤ 3) := of_decide_eq_false (bz_eq w_2 c_3)
    refine lv_bipush (v := -2) hx hb dX5_cell_11 (by decide) ?_
    have hpost : (fun (r : Int32) (u : Unit) => match u with | _ => r = (if 0 ≤ v0 ∧ v0 ≤ 3 then -11 else -2)) (-2) () := pp_X5_cell_0_2 v0 v1 v2 n_5
    exact W.iret (v := (-2)) hx hb hr (fun t ht hW => ⟨⟨(-2), (), rfl, hpost, trivial⟩, hS.F ht⟩) hS.2.2 dX5_cell_13
theorem pp_X5_copy_0_1 (v0 : Int32) (v1 : Int32) (v2 : Int32) (v3 : Int32) (v4 : Int32) (n_5 : ¬ (0 ≤ v0 ∧ v0 ≤ 3)) : ((-2) : Int32) = (if (0 ≤ v0 ∧ v0 ≤ 3) ∧ (0 ≤ v2 ∧ v2 ≤ 3) then -11 else -2) := by
  first
    | rfl
    | exact bz_pos (by (first | omega | (simp only [Int32.lt_iff_toInt_lt, Int32.le_iff_toInt_le, ← Int32.toInt_inj, Int32.reduceToInt] at * <;> omega)))
    | exact bz_neg (by (first | omega | (simp only [Int32.lt_iff_toInt_lt, Int32.le_iff_toInt_le, ← Int32.toInt_inj, Int32.reduceToInt] at * <;> omega)))
    | ((repeat' split) <;> first | rfl | assumption | (symm; assumption) | (exfalso; (first | omega | (simp only [Int32.lt_iff_toInt_lt, Int32.le_iff_toInt_le, ← Int32.toInt_inj, Int32.reduceToInt] at * <;> omega))))
theorem pp_X5_copy_0_2 (v0 : Int32) (v1 : Int32) (v2 : Int32) (v3 : Int32) (v4 : Int32) (p_4 : 0 ≤ v0 ∧ v0 ≤ 3) (p_9 : 0 ≤ v2 ∧ v2 ≤ 3) : ((-11) : Int32) = (if (0 ≤ v0 ∧ v0 ≤ 3) ∧ (0 ≤ v2 ∧ v2 ≤ 3) then -11 else -2) := by
  first
    | rfl
    | exact bz_pos (by (first | omega | (simp only [Int32.lt_iff_toInt_lt, Int32.le_iff_toInt_le, ← Int32.toInt_inj, Int32.reduceToInt] at * <;> omega)))
    | exact bz_neg (by (first | omega | (simp only [Int32.lt_iff_toInt_lt, Int32.le_iff_toInt_le, ← Int32.toInt_inj, Int32.reduceToInt] at * <;> omega)))
    | ((repeat' split) <;> first | rfl | assumption | (symm; assumption) | (exfalso; (first | omega | (simp only [Int32.lt_iff_toInt_lt, Int32.le_iff_toInt_le, ← Int32.toInt_inj, Int32.reduceToInt] at * <;> omega))))
theorem pp_X5_copy_0_3 (v0 : Int32) (v1 : Int32) (v2 : Int32) (v3 : Int32) (v4 : Int32) (p_4 : 0 ≤ v0 ∧ v0 ≤ 3) (n_10 : ¬ (0 ≤ v2 ∧ v2 ≤ 3)) : ((-2) : Int32) = (if (0 ≤ v0 ∧ v0 ≤ 3) ∧ (0 ≤ v2 ∧ v2 ≤ 3) then -11 else -2) := by
  first
    | rfl
    | exact bz_pos (by (first | omega | (simp only [Int32.lt_iff_toInt_lt, Int32.le_iff_toInt_le, ← Int32.toInt_inj, Int32.reduceToInt] at * <;> omega)))
    | exact bz_neg (by (first | omega | (simp only [Int32.lt_iff_toInt_lt, Int32.le_iff_toInt_le, ← Int32.toInt_inj, Int32.reduceToInt] at * <;> omega)))
    | ((repeat' split) <;> first | rfl | assumption | (symm; assumption) | (exfalso; (first | omega | (simp only [Int32.lt_iff_toInt_lt, Int32.le_iff_toInt_le, ← Int32.toInt_inj, Int32.reduceToInt] at * <;> omega))))
abbrev q_X5_copy_0 (G : gG) (E : gS) (h0 tt rd nw th kp sh tu qn qo ql : Nat) (v0 : Int32) (v1 : Int32) (v2 : Int32) (v3 : Int32) (v4 : Int32) (A : Nat → Prop) : Array Value → State → Outcome → State → Prop := va_Qi (fun (r : Int32) (u : Unit) => match u with | _ => r = (if (0 ≤ v0 ∧ v0 ≤ 3) ∧ (0 ≤ v2 ∧ v2 ≤ 3) then -11 else -2)) (fun (u : Unit) t => match u with | _ => True) A
set_option maxHeartbeats 4000000 in
set_option maxRecDepth 100000 in
theorem c_X5_copy_0 (l : Launch) (G : gG) (E : gS) (h0 tt rd nw th kp sh tu qn qo ql : Nat) (v0 : Int32) (v1 : Int32) (v2 : Int32) (v3 : Int32) (v4 : Int32) (sz : Nat) : Met l yX5_copy wsX5_copy ({ frames := 2, cells := 0, slots := 0, locals := 42 }) (gPreE G E [.ref h0, .int v0, .int v1, .int v2, .int v3, .int v4] [(h0, .inr (5, [.ref tt, .ref rd, .ref nw, .ref th, .ref kp, .ref sh, .ref tu, .int 0])), (sh, .inr (2, [.ref qn, .ref qo, .ref ql])), (qo, .inl (G.2.1, 4, .inl (gFl (-1) (fun _ => 0) 4)))] sz) (q_X5_copy_0 G E h0 tt rd nw th kp sh tu qn qo ql v0 v1 v2 v3 v4 (va_A [(h0, .inr (5, [.ref tt, .ref rd, .ref nw, .ref th, .ref kp, .ref sh, .ref tu, .int 0])), (sh, .inr (2, [.ref qn, .ref qo, .ref ql])), (qo, .inl (G.2.1, 4, .inl (gFl (-1) (fun _ => 0) 4)))] sz)) 0 0 (va_A [(h0, .inr (5, [.ref tt, .ref rd, .ref nw, .ref th, .ref kp, .ref sh, .ref tu, .int 0])), (sh, .inr (2, [.ref qn, .ref qo, .ref ql])), (qo, .inl (G.2.1, 4, .inl (gFl (-1) (fun _ => 0) 4)))] sz) := by
  refine Met.ofW (cc := cX5_copy) (maxL := 6) (ret := (some .int)) (by decide) rfl ?_
  intro p e s m args below meth c s₁ B hml hv
  obtain ⟨rfl, hsz, hP, hK, hD0, hE⟩ := hv
  have hx := B.exec
  have hb := B.bytes
  have hr := B.returns
  have hts := atoms_spec (ws := wsX5_copy) B.pre
  have hown : s.vm.findClass RX5 = some m.cls := findClass_of_methodNamed B.named
  have hlocks := B.notSynchronized
  subst hsz
  have hD := hD0.self (sz := s.heap.size)
  generalize hAe : va_A [(h0, .inr (5, [.ref tt, .ref rd, .ref nw, .ref th, .ref kp, .ref sh, .ref tu, .int 0])), (sh, .inr (2, [.ref qn, .ref qo, .ref ql])), (qo, .inl (G.2.1, 4, .inl (gFl (-1) (fun _ => 0) 4)))] s.heap.size = A at hD hE ⊢
  have hA : ∀ q : Nat, s.heap.size ≤ q → A q := fun q h => by rw [← hAe]; exact Or.inr h
  have hS : va_S A s.heap s.heap [] := va_S.rf
  have hP : va_P G.1 vwCl [(h0, .inr (5, [.ref tt, .ref rd, .ref nw, .ref th, .ref kp, .ref sh, .ref tu, .int 0])), (sh, .inr (2, [.ref qn, .ref qo, .ref ql])), (qo, .inl (G.2.1, 4, .inl (gFl (-1) (fun _ => 0) 4)))] s.heap := hP
  have hD : va_D A [(h0, .inr (5, [.ref tt, .ref rd, .ref nw, .ref th, .ref kp, .ref sh, .ref tu, .int 0])), (sh, .inr (2, [.ref qn, .ref qo, .ref ql])), (qo, .inl (G.2.1, 4, .inl (gFl (-1) (fun _ => 0) 4)))] := hD
  have hl := lv_entry ([.ref h0, .int v0, .int v1, .int v2, .int v3, .int v4]) (n := 6) (Nat.le_of_ble_eq_true rfl)
  rw [lg_entry_eq]
  generalize (lg_sl ([.ref h0, .int v0, .int v1, .int v2, .int v3, .int v4]) ++ List.replicate (6 - (lg_sl ([.ref h0, .int v0, .int v1, .int v2, .int v3, .int v4])).length) Slot.unset).toArray = ls at hl ⊢
  have hl : lv_has ls 6 [(0, .ref h0), (1, .int v0), (2, .int v1), (3, .int v2), (4, .int v3), (5, .int v4)] := hl
  have kf41 := hts (.fieldLink RX5 41 "PebbleInShoe" "rows" "LPebbleInShoe$Sheets;") (by decide +kernel)
  have hiX5 := (by decide +kernel : ∀ w ∈ wsX50, w ∈ wsX5_copy)
  have kf225 := hts (.fieldLink RX5 225 "PebbleInShoe$Sheets" "sorts" "[I") (by decide +kernel)
  have hiX2 := (by decide +kernel : ∀ w ∈ wsX20, w ∈ wsX5_copy)
  refine lv_aload_n hx hb dX5_copy_0 rfl (lv_at hl 0 rfl) ?_
  refine va_get (D := G.1) (ci := 5) (v := .ref sh) (C := RX5) (T := TX5) (N := 8) hx hb hts hiX5 hown hK hP 0 rfl rfl 5 (by decide) kf41 (fun _ h9 => h9) rfl dX5_copy_1 ?_
  refine lv_iload_n hx hb dX5_copy_4 rfl (lv_at hl 1 rfl) ?_
  have hPc : va_P G.1 vwCl [(sh, .inr (2, [.ref qn, .ref qo, .ref ql]))] s.heap := hP.sub [1] rfl
  have hDc : va_D A [(sh, .inr (2, [.ref qn, .ref qo, .ref ql]))] := hD.sub [1] (by decide) rfl
  have hFc := va_free (wc := [(sh, .inr (2, [.ref qn, .ref qo, .ref ql]))]) hD hS hA [1] rfl
  refine va_calli (va_runV (As := [.int v0]) (rest := []) ⟨hx, hb, hml, hown, hts⟩ (c_X2_isSheet l G E sh qn qo ql v0 s.heap.size) (cwV 1 hts gX5_copy_X2_isSheet rfl rfl rfl (by decide +kernel) ⟨Nat.le_of_ble_eq_true rfl, Nat.le_of_ble_eq_true rfl⟩) ⟨gPreE_blind, va_recv hK hPc (ci := 2) (q0 := 0) rfl rfl, fun U hU hW => gPreE_of hU hW hK hPc hDc hE hS hFc⟩ rfl rfl hl.1 rfl (lv_room (Nat.le_of_ble_eq_true rfl)) dX5_copy_5 ⟨Nat.le_of_ble_eq_true rfl, Nat.le_of_ble_eq_true rfl⟩) hS (fun q _ h => hFc q h) hFc (fun r_1 u t H locs ht hvm w_2 hB hz1 hk1 hS => ?_)
  obtain ⟨hP1, hK1, hD1⟩ := hB
  rw [ht] at hP1
  have hP1 : va_P G.1 vwCl [(sh, .inr (2, [.ref qn, .ref qo, .ref ql]))] H := hP1
  have hD1 : va_D (va_A [(sh, .inr (2, [.ref qn, .ref qo, .ref ql]))] s.heap.size) [(sh, .inr (2, [.ref qn, .ref qo, .ref ql]))] := hD1
  have w_2 : r_1 = bz (decide (0 ≤ v0 ∧ v0 ≤ 3)) := w_2
  obtain ⟨hP, hD⟩ := va_join (wr := [(h0, .inr (5, [.ref tt, .ref rd, .ref nw, .ref th, .ref kp, .ref sh, .ref tu, .int 0])), (qo, .inl (G.2.1, 4, .inl (gFl (-1) (fun _ => 0) 4)))]) (w1 := [(sh, .inr (2, [.ref qn, .ref qo, .ref ql]))]) hP hD [1] [0, 2] rfl rfl (by decide) (by decide) hk1 hFc hP1 hD1
  have hP : va_P G.1 vwCl [(h0, .inr (5, [.ref tt, .ref rd, .ref nw, .ref th, .ref kp, .ref sh, .ref tu, .int 0])), (qo, .inl (G.2.1, 4, .inl (gFl (-1) (fun _ => 0) 4))), (sh, .inr (2, [.ref qn, .ref qo, .ref ql]))] H := hP
  have hD : va_D A [(h0, .inr (5, [.ref tt, .ref rd, .ref nw, .ref th, .ref kp, .ref sh, .ref tu, .int 0])), (qo, .inl (G.2.1, 4, .inl (gFl (-1) (fun _ => 0) 4))), (sh, .inr (2, [.ref qn, .ref qo, .ref ql]))] := hD
  refine lv_if_eq (tgt := 22) hx hb dX5_copy_8 (by decide) (fun c_3 => ?_) (fun c_3 => ?_)
  · skip
    have n_5 : ¬ (0 ≤ v0 ∧ v0 ≤ 3) := of_decide_eq_false (bz_eq w_2 c_3)
    refine lv_bipush (v := -2) hx hb dX5_copy_22 (by decide) ?_
    have hpost : (fun (r : Int32) (u : Unit) => match u with | _ => r = (if (0 ≤ v0 ∧ v0 ≤ 3) ∧ (0 ≤ v2 ∧ v2 ≤ 3) then -11 else -2)) (-2) () := pp_X5_copy_0_1 v0 v1 v2 v3 v4 n_5
    exact W.iret (v := (-2)) hx hb hr (fun t ht hW => ⟨⟨(-2), (), rfl, hpost, trivial⟩, hS.F ht⟩) hS.2.2 dX5_copy_24
  · skip
    have p_4 : 0 ≤ v0 ∧ v0 ≤ 3 := of_decide_eq_true (bz_ne w_2 c_3)
    refine lv_aload_n hx hb dX5_copy_11 rfl (lv_at hl 0 rfl) ?_
    refine va_get (D := G.1) (ci := 5) (v := .ref sh) (C := RX5) (T := TX5) (N := 8) hx hb hts hiX5 hown hK hP 0 rfl rfl 5 (by decide) kf41 (fun _ h9 => h9) rfl dX5_copy_12 ?_
    refine lv_iload_n hx hb dX5_copy_15 rfl (lv_at hl 3 rfl) ?_
    have hPc : va_P G.1 vwCl [(sh, .inr (2, [.ref qn, .ref qo, .ref ql]))] H := hP.sub [2] rfl
    have hDc : va_D A [(sh, .inr (2, [.ref qn, .ref qo, .ref ql]))] := hD.sub [2] (by decide) rfl
    have hFc := va_free (wc := [(sh, .inr (2, [.ref qn, .ref qo, .ref ql]))]) hD hS hA [2] rfl
    refine va_calli (va_runV (As := [.int v2]) (rest := []) ⟨hx, hb, hml, hown, hts⟩ (c_X2_isSheet l G E sh qn qo ql v2 H.size) (cwV 1 hts gX5_copy_X2_isSheet rfl rfl rfl (by decide +kernel) ⟨Nat.le_of_ble_eq_true rfl, Nat.le_of_ble_eq_true rfl⟩) ⟨gPreE_blind, va_recv hK hPc (ci := 2) (q0 := 0) rfl rfl, fun U hU hW => gPreE_of hU hW hK hPc hDc hE hS hFc⟩ rfl rfl hl.1 rfl (lv_room (Nat.le_of_ble_eq_true rfl)) dX5_copy_16 ⟨Nat.le_of_ble_eq_true rfl, Nat.le_of_ble_eq_true rfl⟩) hS (fun q _ h => hFc q h) hFc (fun r_6 u t H locs ht hvm w_7 hB hz1 hk1 hS => ?_)
    obtain ⟨hP1, hK1, hD1⟩ := hB
    rw [ht] at hP1
    have hP1 : va_P G.1 vwCl [(sh, .inr (2, [.ref qn, .ref qo, .ref ql]))] H := hP1
    have hD1 : va_D (va_A [(sh, .inr (2, [.ref qn, .ref qo, .ref ql]))] _) [(sh, .inr (2, [.ref qn, .ref qo, .ref ql]))] := hD1
    have w_7 : r_6 = bz (decide (0 ≤ v2 ∧ v2 ≤ 3)) := w_7
    obtain ⟨hP, hD⟩ := va_join (wr := [(h0, .inr (5, [.ref tt, .ref rd, .ref nw, .ref th, .ref kp, .ref sh, .ref tu, .int 0])), (qo, .inl (G.2.1, 4, .inl (gFl (-1) (fun _ => 0) 4)))]) (w1 := [(sh, .inr (2, [.ref qn, .ref qo, .ref ql]))]) hP hD [2] [0, 1] rfl rfl (by decide) (by decide) hk1 hFc hP1 hD1
    have hP : va_P G.1 vwCl [(h0, .inr (5, [.ref tt, .ref rd, .ref nw, .ref th, .ref kp, .ref sh, .ref tu, .int 0])), (qo, .inl (G.2.1, 4, .inl (gFl (-1) (fun _ => 0) 4))), (sh, .inr (2, [.ref qn, .ref qo, .ref ql]))] H := hP
    have hD : va_D A [(h0, .inr (5, [.ref tt, .ref rd, .ref nw, .ref th, .ref kp, .ref sh, .ref tu, .int 0])), (qo, .inl (G.2.1, 4, .inl (gFl (-1) (fun _ => 0) 4))), (sh, .inr (2, [.ref qn, .ref qo, .ref ql]))] := hD
    refine lv_if_ne (tgt := 25) hx hb dX5_copy_19 (by decide) (fun c_8 => ?_) (fun c_8 => ?_)
    · skip
      have p_9 : 0 ≤ v2 ∧ v2 ≤ 3 := of_decide_eq_true (bz_ne w_7 c_8)
      refine lv_aload_n hx hb dX5_copy_25 rfl (lv_at hl 0 rfl) ?_
      refine va_get (D := G.1) (ci := 5) (v := .ref sh) (C := RX5) (T := TX5) (N := 8) hx hb hts hiX5 hown hK hP 0 rfl rfl 5 (by decide) kf41 (fun _ h9 => h9) rfl dX5_copy_26 ?_
      refine va_get (D := G.1) (ci := 2) (v := .ref qo) (C := RX2) (T := TX2) (N := 3) hx hb hts hiX2 hown hK hP 2 rfl rfl 1 (by decide) kf225 (fun _ h9 => h9) rfl dX5_copy_29 ?_
      refine lv_iload_n hx hb dX5_copy_32 rfl (lv_at hl 1 rfl) ?_
      refine va_iald (D := G.1) hx hb hK hP 1 0 rfl rfl (i := v0) (g_in3 (by assumption)) dX5_copy_33 ?_
      refine lv_topi (fun v_11 ev_11 => ?_)
      have ev_11 : v_11 = -1 := ev_11.trans (g_m1 (by assumption))
      subst ev_11
      refine lv_iconst (v := -1) hx hb dX5_copy_34 (by decide) ?_
      refine lv_icmp_eq (tgt := 51) hx hb dX5_copy_35 (by decide) (fun c_12 => ?_) (fun c_12 => ?_)
      rotate_left
      · exact absurd (by decide) c_12
      refine lv_bipush (v := -11) hx hb dX5_copy_51 (by decide) ?_
      have hpost : (fun (r : Int32) (u : Unit) => match u with | _ => r = (if (0 ≤ v0 ∧ v0 ≤ 3) ∧ (0 ≤ v2 ∧ v2 ≤ 3) then -11 else -2)) (-11) () := pp_X5_copy_0_2 v0 v1 v2 v3 v4 p_4 p_9
      exact W.iret (v := (-11)) hx hb hr (fun t ht hW => ⟨⟨(-11), (), rfl, hpost, trivial⟩, hS.F ht⟩) hS.2.2 dX5_copy_53
    · skip
      have n_10 : ¬ (0 ≤ v2 ∧ v2 ≤ 3) := of_decide_eq_false (bz_eq w_7 c_8)
      refine lv_bipush (v := -2) hx hb dX5_copy_22 (by decide) ?_
      have hpost : (fun (r : Int32) (u : Unit) => match u with | _ => r = (if (0 ≤ v0 ∧ v0 ≤ 3) ∧ (0 ≤ v2 ∧ v2 ≤ 3) then -11 else -2)) (-2) () := pp_X5_copy_0_3 v0 v1 v2 v3 v4 p_4 n_10
      exact W.iret (v := (-2)) hx hb hr (fun t ht hW => ⟨⟨(-2), (), rfl, hpost, trivial⟩, hS.F ht⟩) hS.2.2 dX5_copy_24
theorem pp_X5_pebblesBy_0_1 (v0 : Int32) (v1 : Int32) (v2 : Int32) (v3 : Int32) (n_5 : ¬ (0 ≤ v0 ∧ v0 ≤ 3)) : ((-2) : Int32) = (if (0 ≤ v0 ∧ v0 ≤ 3) ∧ (0 ≤ v1 ∧ v1 ≤ 2) ∧ (0 ≤ v3 ∧ v3 ≤ 6) then -11 else -2) := by
  first
    | rfl
    | exact bz_pos (by (first | omega | (simp only [Int32.lt_iff_toInt_lt, Int32.le_iff_toInt_le, ← Int32.toInt_inj, Int32.reduceToInt] at * <;> omega)))
    | exact bz_neg (by (first | omega | (simp only [Int32.lt_iff_toInt_lt, Int32.le_iff_toInt_le, ← Int32.toInt_inj, Int32.reduceToInt] at * <;> omega)))
    | ((repeat' split) <;> first | rfl | assumption | (symm; assumption) | (exfalso; (first | omega | (simp only [Int32.lt_iff_toInt_lt, Int32.le_iff_toInt_le, ← Int32.toInt_inj, Int32.reduceToInt] at * <;> omega))))
theorem pp_X5_pebblesBy_0_2 (v0 : Int32) (v1 : Int32) (v2 : Int32) (v3 : Int32) (p_4 : 0 ≤ v0 ∧ v0 ≤ 3) (n_10 : ¬ (0 ≤ v1 ∧ v1 ≤ 2)) : ((-2) : Int32) = (if (0 ≤ v0 ∧ v0 ≤ 3) ∧ (0 ≤ v1 ∧ v1 ≤ 2) ∧ (0 ≤ v3 ∧ v3 ≤ 6) then -11 else -2) := by
  first
    | rfl
    | exact bz_pos (by (first | omega | (simp only [Int32.lt_iff_toInt_lt, Int32.le_iff_toInt_le, ← Int32.toInt_inj, Int32.reduceToInt] at * <;> omega)))
    | exact bz_neg (by (first | omega | (simp only [Int32.lt_iff_toInt_lt, Int32.le_iff_toInt_le, ← Int32.toInt_inj, Int32.reduceToInt] at * <;> omega)))
    | ((repeat' split) <;> first | rfl | assumption | (symm; assumption) | (exfalso; (first | omega | (simp only [Int32.lt_iff_toInt_lt, Int32.le_iff_toInt_le, ← Int32.toInt_inj, Int32.reduceToInt] at * <;> omega))))
theorem pp_X5_pebblesBy_0_3 (v0 : Int32) (v1 : Int32) (v2 : Int32) (v3 : Int32) (p_4 : 0 ≤ v0 ∧ v0 ≤ 3) (p_9 : 0 ≤ v1 ∧ v1 ≤ 2) (p_14 : 0 ≤ v3 ∧ v3 ≤ 6) : ((-11) : Int32) = (if (0 ≤ v0 ∧ v0 ≤ 3) ∧ (0 ≤ v1 ∧ v1 ≤ 2) ∧ (0 ≤ v3 ∧ v3 ≤ 6) then -11 else -2) := by
  first
    | rfl
    | exact bz_pos (by (first | omega | (simp only [Int32.lt_iff_toInt_lt, Int32.le_iff_toInt_le, ← Int32.toInt_inj, Int32.reduceToInt] at * <;> omega)))
    | exact bz_neg (by (first | omega | (simp only [Int32.lt_iff_toInt_lt, Int32.le_iff_toInt_le, ← Int32.toInt_inj, Int32.reduceToInt] at * <;> omega)))
    | ((repeat' split) <;> first | rfl | assumption | (symm; assumption) | (exfalso; (first | omega | (simp only [Int32.lt_iff_toInt_lt, Int32.le_iff_toInt_le, ← Int32.toInt_inj, Int32.reduceToInt] at * <;> omega))))
theorem pp_X5_pebblesBy_0_4 (v0 : Int32) (v1 : Int32) (v2 : Int32) (v3 : Int32) (p_4 : 0 ≤ v0 ∧ v0 ≤ 3) (p_9 : 0 ≤ v1 ∧ v1 ≤ 2) (n_15 : ¬ (0 ≤ v3 ∧ v3 ≤ 6)) : ((-2) : Int32) = (if (0 ≤ v0 ∧ v0 ≤ 3) ∧ (0 ≤ v1 ∧ v1 ≤ 2) ∧ (0 ≤ v3 ∧ v3 ≤ 6) then -11 else -2) := by
  first
    | rfl
    | exact bz_pos (by (first | omega | (simp only [Int32.lt_iff_toInt_lt, Int32.le_iff_toInt_le, ← Int32.toInt_inj, Int32.reduceToInt] at * <;> omega)))
    | exact bz_neg (by (first | omega | (simp only [Int32.lt_iff_toInt_lt, Int32.le_iff_toInt_le, ← Int32.toInt_inj, Int32.reduceToInt] at * <;> omega)))
    | ((repeat' split) <;> first | rfl | assumption | (symm; assumption) | (exfalso; (first | omega | (simp only [Int32.lt_iff_toInt_lt, Int32.le_iff_toInt_le, ← Int32.toInt_inj, Int32.reduceToInt] at * <;> omega))))
abbrev q_X5_pebblesBy_0 (G : gG) (E : gS) (h0 tt rd nw th kp sh tu qn qo ql : Nat) (v0 : Int32) (v1 : Int32) (v2 : Int32) (v3 : Int32) (A : Nat → Prop) : Array Value → State → Outcome → State → Prop := va_Qi (fun (r : Int32) (u : Unit) => match u with | _ => r = (if (0 ≤ v0 ∧ v0 ≤ 3) ∧ (0 ≤ v1 ∧ v1 ≤ 2) ∧ (0 ≤ v3 ∧ v3 ≤ 6) then -11 else -2)) (fun (u : Unit) t => match u with | _ => True) A
set_option maxHeartbeats 4000000 in
set_option maxRecDepth 100000 in
theorem c_X5_pebblesBy_0 (l : Launch) (G : gG) (E : gS) (h0 tt rd nw th kp sh tu qn qo ql : Nat) (v0 : Int32) (v1 : Int32) (v2 : Int32) (v3 : Int32) (sz : Nat) : Met l yX5_pebblesBy wsX5_pebblesBy ({ frames := 2, cells := 0, slots := 0, locals := 42 }) (gPreE G E [.ref h0, .int v0, .int v1, .int v2, .int v3] [(h0, .inr (5, [.ref tt, .ref rd, .ref nw, .ref th, .ref kp, .ref sh, .ref tu, .int 0])), (sh, .inr (2, [.ref qn, .ref qo, .ref ql])), (qo, .inl (G.2.1, 4, .inl (gFl (-1) (fun _ => 0) 4)))] sz) (q_X5_pebblesBy_0 G E h0 tt rd nw th kp sh tu qn qo ql v0 v1 v2 v3 (va_A [(h0, .inr (5, [.ref tt, .ref rd, .ref nw, .ref th, .ref kp, .ref sh, .ref tu, .int 0])), (sh, .inr (2, [.ref qn, .ref qo, .ref ql])), (qo, .inl (G.2.1, 4, .inl (gFl (-1) (fun _ => 0) 4)))] sz)) 0 0 (va_A [(h0, .inr (5, [.ref tt, .ref rd, .ref nw, .ref th, .ref kp, .ref sh, .ref tu, .int 0])), (sh, .inr (2, [.ref qn, .ref qo, .ref ql])), (qo, .inl (G.2.1, 4, .inl (gFl (-1) (fun _ => 0) 4)))] sz) := by
  refine Met.ofW (cc := cX5_pebblesBy) (maxL := 8) (ret := (some .int)) (by decide) rfl ?_
  intro p e s m args below meth c s₁ B hml hv
  obtain ⟨rfl, hsz, hP, hK, hD0, hE⟩ := hv
  have hx := B.exec
  have hb := B.bytes
  have hr := B.returns
  have hts := atoms_spec (ws := wsX5_pebblesBy) B.pre
  have hown : s.vm.findClass RX5 = some m.cls := findClass_of_methodNamed B.named
  have hlocks := B.notSynchronized
  subst hsz
  have hD := hD0.self (sz := s.heap.size)
  generalize hAe : va_A [(h0, .inr (5, [.ref tt, .ref rd, .ref nw, .ref th, .ref kp, .ref sh, .ref tu, .int 0])), (sh, .inr (2, [.ref qn, .ref qo, .ref ql])), (qo, .inl (G.2.1, 4, .inl (gFl (-1) (fun _ => 0) 4)))] s.heap.size = A at hD hE ⊢
  have hA : ∀ q : Nat, s.heap.size ≤ q → A q := fun q h => by rw [← hAe]; exact Or.inr h
  have hS : va_S A s.heap s.heap [] := va_S.rf
  have hP : va_P G.1 vwCl [(h0, .inr (5, [.ref tt, .ref rd, .ref nw, .ref th, .ref kp, .ref sh, .ref tu, .int 0])), (sh, .inr (2, [.ref qn, .ref qo, .ref ql])), (qo, .inl (G.2.1, 4, .inl (gFl (-1) (fun _ => 0) 4)))] s.heap := hP
  have hD : va_D A [(h0, .inr (5, [.ref tt, .ref rd, .ref nw, .ref th, .ref kp, .ref sh, .ref tu, .int 0])), (sh, .inr (2, [.ref qn, .ref qo, .ref ql])), (qo, .inl (G.2.1, 4, .inl (gFl (-1) (fun _ => 0) 4)))] := hD
  have hl := lv_entry ([.ref h0, .int v0, .int v1, .int v2, .int v3]) (n := 8) (Nat.le_of_ble_eq_true rfl)
  rw [lg_entry_eq]
  generalize (lg_sl ([.ref h0, .int v0, .int v1, .int v2, .int v3]) ++ List.replicate (8 - (lg_sl ([.ref h0, .int v0, .int v1, .int v2, .int v3])).length) Slot.unset).toArray = ls at hl ⊢
  have hl : lv_has ls 8 [(0, .ref h0), (1, .int v0), (2, .int v1), (3, .int v2), (4, .int v3)] := hl
  have kf41 := hts (.fieldLink RX5 41 "PebbleInShoe" "rows" "LPebbleInShoe$Sheets;") (by decide +kernel)
  have hiX5 := (by decide +kernel : ∀ w ∈ wsX50, w ∈ wsX5_pebblesBy)
  have kf225 := hts (.fieldLink RX5 225 "PebbleInShoe$Sheets" "sorts" "[I") (by decide +kernel)
  have hiX2 := (by decide +kernel : ∀ w ∈ wsX20, w ∈ wsX5_pebblesBy)
  refine lv_aload_n hx hb dX5_pebblesBy_0 rfl (lv_at hl 0 rfl) ?_
  refine va_get (D := G.1) (ci := 5) (v := .ref sh) (C := RX5) (T := TX5) (N := 8) hx hb hts hiX5 hown hK hP 0 rfl rfl 5 (by decide) kf41 (fun _ h9 => h9) rfl dX5_pebblesBy_1 ?_
  refine lv_iload_n hx hb dX5_pebblesBy_4 rfl (lv_at hl 1 rfl) ?_
  have hPc : va_P G.1 vwCl [(sh, .inr (2, [.ref qn, .ref qo, .ref ql]))] s.heap := hP.sub [1] rfl
  have hDc : va_D A [(sh, .inr (2, [.ref qn, .ref qo, .ref ql]))] := hD.sub [1] (by decide) rfl
  have hFc := va_free (wc := [(sh, .inr (2, [.ref qn, .ref qo, .ref ql]))]) hD hS hA [1] rfl
  refine va_calli (va_runV (As := [.int v0]) (rest := []) ⟨hx, hb, hml, hown, hts⟩ (c_X2_isSheet l G E sh qn qo ql v0 s.heap.size) (cwV 1 hts gX5_pebblesBy_X2_isSheet rfl rfl rfl (by decide +kernel) ⟨Nat.le_of_ble_eq_true rfl, Nat.le_of_ble_eq_true rfl⟩) ⟨gPreE_blind, va_recv hK hPc (ci := 2) (q0 := 0) rfl rfl, fun U hU hW => gPreE_of hU hW hK hPc hDc hE hS hFc⟩ rfl rfl hl.1 rfl (lv_room (Nat.le_of_ble_eq_true rfl)) dX5_pebblesBy_5 ⟨Nat.le_of_ble_eq_true rfl, Nat.le_of_ble_eq_true rfl⟩) hS (fun q _ h => hFc q h) hFc (fun r_1 u t H locs ht hvm w_2 hB hz1 hk1 hS => ?_)
  obtain ⟨hP1, hK1, hD1⟩ := hB
  rw [ht] at hP1
  have hP1 : va_P G.1 vwCl [(sh, .inr (2, [.ref qn, .ref qo, .ref ql]))] H := hP1
  have hD1 : va_D (va_A [(sh, .inr (2, [.ref qn, .ref qo, .ref ql]))] s.heap.size) [(sh, .inr (2, [.ref qn, .ref qo, .ref ql]))] := hD1
  have w_2 : r_1 = bz (decide (0 ≤ v0 ∧ v0 ≤ 3)) := w_2
  obtain ⟨hP, hD⟩ := va_join (wr := [(h0, .inr (5, [.ref tt, .ref rd, .ref nw, .ref th, .ref kp, .ref sh, .ref tu, .int 0])), (qo, .inl (G.2.1, 4, .inl (gFl (-1) (fun _ => 0) 4)))]) (w1 := [(sh, .inr (2, [.ref qn, .ref qo, .ref ql]))]) hP hD [1] [0, 2] rfl rfl (by decide) (by decide) hk1 hFc hP1 hD1
  have hP : va_P G.1 vwCl [(h0, .inr (5, [.ref tt, .ref rd, .ref nw, .ref th, .ref kp, .ref sh, .ref tu, .int 0])), (qo, .inl (G.2.1, 4, .inl (gFl (-1) (fun _ => 0) 4))), (sh, .inr (2, [.ref qn, .ref qo, .ref ql]))] H := hP
  have hD : va_D A [(h0, .inr (5, [.ref tt, .ref rd, .ref nw, .ref th, .ref kp, .ref sh, .ref tu, .int 0])), (qo, .inl (G.2.1, 4, .inl (gFl (-1) (fun _ => 0) 4))), (sh, .inr (2, [.ref qn, .ref qo, .ref ql]))] := hD
  refine lv_if_eq (tgt := 29) hx hb dX5_pebblesBy_8 (by decide) (fun c_3 => ?_) (fun c_3 => ?_)
  · skip
    have n_5 : ¬ (0 ≤ v0 ∧ v0 ≤ 3) := of_decide_eq_false (bz_eq w_2 c_3)
    refine lv_bipush (v := -2) hx hb dX5_pebblesBy_29 (by decide) ?_
    have hpost : (fun (r : Int32) (u : Unit) => match u with | _ => r = (if (0 ≤ v0 ∧ v0 ≤ 3) ∧ (0 ≤ v1 ∧ v1 ≤ 2) ∧ (0 ≤ v3 ∧ v3 ≤ 6) then -11 else -2)) (-2) () := pp_X5_pebblesBy_0_1 v0 v1 v2 v3 n_5
    exact W.iret (v := (-2)) hx hb hr (fun t ht hW => ⟨⟨(-2), (), rfl, hpost, trivial⟩, hS.F ht⟩) hS.2.2 dX5_pebblesBy_31
  · skip
    have p_4 : 0 ≤ v0 ∧ v0 ≤ 3 := of_decide_eq_true (bz_ne w_2 c_3)
    refine lv_iload_n hx hb dX5_pebblesBy_11 rfl (lv_at hl 2 rfl) ?_
    refine lv_iconst (v := 2) hx hb dX5_pebblesBy_12 (by decide) ?_
    have hPc : va_P G.1 vwCl [] H := hP.sub [] rfl
    have hDc : va_D A [] := hD.sub [] (by decide) rfl
    have hFc := va_free (wc := []) hD hS hA [] rfl
    refine va_calli (va_runS (As := [.int v1, .int 2]) (rest := []) ⟨hx, hb, hml, hown, hts⟩ (c_X5_within l G v1 2 H.size) (va_cwS 2 hts gX5_pebblesBy_X5_within rfl rfl rfl (by decide +kernel) ⟨Nat.le_of_ble_eq_true rfl, Nat.le_of_ble_eq_true rfl⟩) ⟨gPre_blind, fun U hU hW => gPre_of hU hW hK hPc hDc⟩ rfl rfl hl.1 rfl (lv_room (Nat.le_of_ble_eq_true rfl)) dX5_pebblesBy_13 ⟨Nat.le_of_ble_eq_true rfl, Nat.le_of_ble_eq_true rfl⟩) hS (fun q _ h => hFc q h) hFc (fun r_6 u t H locs ht hvm w_7 hB hz1 hk1 hS => ?_)
    obtain ⟨hP1, hK1, hD1⟩ := hB
    rw [ht] at hP1
    have hP1 : va_P G.1 vwCl [] H := hP1
    have hD1 : va_D (va_A [] _) [] := hD1
    have w_7 : r_6 = bz (decide (0 ≤ v1 ∧ v1 ≤ 2)) := w_7
    obtain ⟨hP, hD⟩ := va_join (wr := [(h0, .inr (5, [.ref tt, .ref rd, .ref nw, .ref th, .ref kp, .ref sh, .ref tu, .int 0])), (qo, .inl (G.2.1, 4, .inl (gFl (-1) (fun _ => 0) 4))), (sh, .inr (2, [.ref qn, .ref qo, .ref ql]))]) (w1 := []) hP hD [] [0, 1, 2] rfl rfl (by decide) (by decide) hk1 hFc hP1 hD1
    have hP : va_P G.1 vwCl [(h0, .inr (5, [.ref tt, .ref rd, .ref nw, .ref th, .ref kp, .ref sh, .ref tu, .int 0])), (qo, .inl (G.2.1, 4, .inl (gFl (-1) (fun _ => 0) 4))), (sh, .inr (2, [.ref qn, .ref qo, .ref ql]))] H := hP
    have hD : va_D A [(h0, .inr (5, [.ref tt, .ref rd, .ref nw, .ref th, .ref kp, .ref sh, .ref tu, .int 0])), (qo, .inl (G.2.1, 4, .inl (gFl (-1) (fun _ => 0) 4))), (sh, .inr (2, [.ref qn, .ref qo, .ref ql]))] := hD
    refine lv_if_eq (tgt := 29) hx hb dX5_pebblesBy_16 (by decide) (fun c_8 => ?_) (fun c_8 => ?_)
    · skip
      have n_10 : ¬ (0 ≤ v1 ∧ v1 ≤ 2) := of_decide_eq_false (bz_eq w_7 c_8)
      refine lv_bipush (v := -2) hx hb dX5_pebblesBy_29 (by decide) ?_
      have hpost : (fun (r : Int32) (u : Unit) => match u with | _ => r = (if (0 ≤ v0 ∧ v0 ≤ 3) ∧ (0 ≤ v1 ∧ v1 ≤ 2) ∧ (0 ≤ v3 ∧ v3 ≤ 6) then -11 else -2)) (-2) () := pp_X5_pebblesBy_0_2 v0 v1 v2 v3 p_4 n_10
      exact W.iret (v := (-2)) hx hb hr (fun t ht hW => ⟨⟨(-2), (), rfl, hpost, trivial⟩, hS.F ht⟩) hS.2.2 dX5_pebblesBy_31
    · skip
      have p_9 : 0 ≤ v1 ∧ v1 ≤ 2 := of_decide_eq_true (bz_ne w_7 c_8)
      refine lv_iload hx hb dX5_pebblesBy_19 (lv_at hl 4 rfl) ?_
      refine lv_bipush (v := 6) hx hb dX5_pebblesBy_21 (by decide) ?_
      have hPc : va_P G.1 vwCl [] H := hP.sub [] rfl
      have hDc : va_D A [] := hD.sub [] (by decide) rfl
      have hFc := va_free (wc := []) hD hS hA [] rfl
      refine va_calli (va_runS (As := [.int v3, .int 6]) (rest := []) ⟨hx, hb, hml, hown, hts⟩ (c_X5_within l G v3 6 H.size) (va_cwS 2 hts gX5_pebblesBy_X5_within rfl rfl rfl (by decide +kernel) ⟨Nat.le_of_ble_eq_true rfl, Nat.le_of_ble_eq_true rfl⟩) ⟨gPre_blind, fun U hU hW => gPre_of hU hW hK hPc hDc⟩ rfl rfl hl.1 rfl (lv_room (Nat.le_of_ble_eq_true rfl)) dX5_pebblesBy_23 ⟨Nat.le_of_ble_eq_true rfl, Nat.le_of_ble_eq_true rfl⟩) hS (fun q _ h => hFc q h) hFc (fun r_11 u t H locs ht hvm w_12 hB hz1 hk1 hS => ?_)
      obtain ⟨hP1, hK1, hD1⟩ := hB
      rw [ht] at hP1
      have hP1 : va_P G.1 vwCl [] H := hP1
      have hD1 : va_D (va_A [] _) [] := hD1
      have w_12 : r_11 = bz (decide (0 ≤ v3 ∧ v3 ≤ 6)) := w_12
      obtain ⟨hP, hD⟩ := va_join (wr := [(h0, .inr (5, [.ref tt, .ref rd, .ref nw, .ref th, .ref kp, .ref sh, .ref tu, .int 0])), (qo, .inl (G.2.1, 4, .inl (gFl (-1) (fun _ => 0) 4))), (sh, .inr (2, [.ref qn, .ref qo, .ref ql]))]) (w1 := []) hP hD [] [0, 1, 2] rfl rfl (by decide) (by decide) hk1 hFc hP1 hD1
      have hP : va_P G.1 vwCl [(h0, .inr (5, [.ref tt, .ref rd, .ref nw, .ref th, .ref kp, .ref sh, .ref tu, .int 0])), (qo, .inl (G.2.1, 4, .inl (gFl (-1) (fun _ => 0) 4))), (sh, .inr (2, [.ref qn, .ref qo, .ref ql]))] H := hP
      have hD : va_D A [(h0, .inr (5, [.ref tt, .ref rd, .ref nw, .ref th, .ref kp, .ref sh, .ref tu, .int 0])), (qo, .inl (G.2.1, 4, .inl (gFl (-1) (fun _ => 0) 4))), (sh, .inr (2, [.ref qn, .ref qo, .ref ql]))] := hD
      refine lv_if_ne (tgt := 32) hx hb dX5_pebblesBy_26 (by decide) (fun c_13 => ?_) (fun c_13 => ?_)
      · skip
        have p_14 : 0 ≤ v3 ∧ v3 ≤ 6 := of_decide_eq_true (bz_ne w_12 c_13)
        refine lv_aload_n hx hb dX5_pebblesBy_32 rfl (lv_at hl 0 rfl) ?_
        refine va_get (D := G.1) (ci := 5) (v := .ref sh) (C := RX5) (T := TX5) (N := 8) hx hb hts hiX5 hown hK hP 0 rfl rfl 5 (by decide) kf41 (fun _ h9 => h9) rfl dX5_pebblesBy_33 ?_
        refine va_get (D := G.1) (ci := 2) (v := .ref qo) (C := RX2) (T := TX2) (N := 3) hx hb hts hiX2 hown hK hP 2 rfl rfl 1 (by decide) kf225 (fun _ h9 => h9) rfl dX5_pebblesBy_36 ?_
        refine lv_iload_n hx hb dX5_pebblesBy_39 rfl (lv_at hl 1 rfl) ?_
        refine va_iald (D := G.1) hx hb hK hP 1 0 rfl rfl (i := v0) (g_in3 (by assumption)) dX5_pebblesBy_40 ?_
        refine lv_topi (fun v_16 ev_16 => ?_)
        have ev_16 : v_16 = -1 := ev_16.trans (g_m1 (by assumption))
        subst ev_16
        refine lv_iconst (v := -1) hx hb dX5_pebblesBy_41 (by decide) ?_
        refine lv_icmp_ne (tgt := 48) hx hb dX5_pebblesBy_42 (by decide) (fun c_17 => ?_) (fun c_17 => ?_)
        · exact absurd (by decide) c_17
        refine lv_bipush (v := -11) hx hb dX5_pebblesBy_45 (by decide) ?_
        have hpost : (fun (r : Int32) (u : Unit) => match u with | _ => r = (if (0 ≤ v0 ∧ v0 ≤ 3) ∧ (0 ≤ v1 ∧ v1 ≤ 2) ∧ (0 ≤ v3 ∧ v3 ≤ 6) then -11 else -2)) (-11) () := pp_X5_pebblesBy_0_3 v0 v1 v2 v3 p_4 p_9 p_14
        exact W.iret (v := (-11)) hx hb hr (fun t ht hW => ⟨⟨(-11), (), rfl, hpost, trivial⟩, hS.F ht⟩) hS.2.2 dX5_pebblesBy_47
      · skip
        have n_15 : ¬ (0 ≤ v3 ∧ v3 ≤ 6) := of_decide_eq_false (bz_eq w_12 c_13)
        refine lv_bipush (v := -2) hx hb dX5_pebblesBy_29 (by decide) ?_
        have hpost : (fun (r : Int32) (u : Unit) => match u with | _ => r = (if (0 ≤ v0 ∧ v0 ≤ 3) ∧ (0 ≤ v1 ∧ v1 ≤ 2) ∧ (0 ≤ v3 ∧ v3 ≤ 6) then -11 else -2)) (-2) () := pp_X5_pebblesBy_0_4 v0 v1 v2 v3 p_4 p_9 n_15
        exact W.iret (v := (-2)) hx hb hr (fun t ht hW => ⟨⟨(-2), (), rfl, hpost, trivial⟩, hS.F ht⟩) hS.2.2 dX5_pebblesBy_31
theorem pp_X5_taken_0_1 (v0 : Int32) (v1 : Int32) (p_4 : 0 ≤ v1 ∧ v1 ≤ 6) (p_9 : 0 ≤ v0 ∧ v0 ≤ 9) (c_11 : v0 < 6) : ((-11) : Int64) = (if 0 ≤ v1 ∧ v1 ≤ 6 then (if 0 ≤ v0 ∧ v0 ≤ 9 then -11 else -12) else -2) := by
  first
    | rfl
    | exact bz_pos (by (first | omega | (simp only [Int32.lt_iff_toInt_lt, Int32.le_iff_toInt_le, ← Int32.toInt_inj, Int32.reduceToInt] at * <;> omega)))
    | exact bz_neg (by (first | omega | (simp only [Int32.lt_iff_toInt_lt, Int32.le_iff_toInt_le, ← Int32.toInt_inj, Int32.reduceToInt] at * <;> omega)))
    | ((repeat' split) <;> first | rfl | assumption | (symm; assumption) | (exfalso; (first | omega | (simp only [Int32.lt_iff_toInt_lt, Int32.le_iff_toInt_le, ← Int32.toInt_inj, Int32.reduceToInt] at * <;> omega))))
theorem pp_X5_taken_0_2 (v0 : Int32) (v1 : Int32) (p_4 : 0 ≤ v1 ∧ v1 ≤ 6) (p_9 : 0 ≤ v0 ∧ v0 ≤ 9) (c_11 : ¬ (v0 < 6)) : ((-11) : Int64) = (if 0 ≤ v1 ∧ v1 ≤ 6 then (if 0 ≤ v0 ∧ v0 ≤ 9 then -11 else -12) else -2) := by
  first
    | rfl
    | exact bz_pos (by (first | omega | (simp only [Int32.lt_iff_toInt_lt, Int32.le_iff_toInt_le, ← Int32.toInt_inj, Int32.reduceToInt] at * <;> omega)))
    | exact bz_neg (by (first | omega | (simp only [Int32.lt_iff_toInt_lt, Int32.le_iff_toInt_le, ← Int32.toInt_inj, Int32.reduceToInt] at * <;> omega)))
    | ((repeat' split) <;> first | rfl | assumption | (symm; assumption) | (exfalso; (first | omega | (simp only [Int32.lt_iff_toInt_lt, Int32.le_iff_toInt_le, ← Int32.toInt_inj, Int32.reduceToInt] at * <;> omega))))
theorem pp_X5_taken_0_3 (v0 : Int32) (v1 : Int32) (p_4 : 0 ≤ v1 ∧ v1 ≤ 6) (n_10 : ¬ (0 ≤ v0 ∧ v0 ≤ 9)) : ((-12) : Int64) = (if 0 ≤ v1 ∧ v1 ≤ 6 then (if 0 ≤ v0 ∧ v0 ≤ 9 then -11 else -12) else -2) := by
  first
    | rfl
    | exact bz_pos (by (first | omega | (simp only [Int32.lt_iff_toInt_lt, Int32.le_iff_toInt_le, ← Int32.toInt_inj, Int32.reduceToInt] at * <;> omega)))
    | exact bz_neg (by (first | omega | (simp only [Int32.lt_iff_toInt_lt, Int32.le_iff_toInt_le, ← Int32.toInt_inj, Int32.reduceToInt] at * <;> omega)))
    | ((repeat' split) <;> first | rfl | assumption | (symm; assumption) | (exfalso; (first | omega | (simp only [Int32.lt_iff_toInt_lt, Int32.le_iff_toInt_le, ← Int32.toInt_inj, Int32.reduceToInt] at * <;> omega))))
theorem pp_X5_taken_0_4 (v0 : Int32) (v1 : Int32) (n_5 : ¬ (0 ≤ v1 ∧ v1 ≤ 6)) : ((-2) : Int64) = (if 0 ≤ v1 ∧ v1 ≤ 6 then (if 0 ≤ v0 ∧ v0 ≤ 9 then -11 else -12) else -2) := by
  first
    | rfl
    | exact bz_pos (by (first | omega | (simp only [Int32.lt_iff_toInt_lt, Int32.le_iff_toInt_le, ← Int32.toInt_inj, Int32.reduceToInt] at * <;> omega)))
    | exact bz_neg (by (first | omega | (simp only [Int32.lt_iff_toInt_lt, Int32.le_iff_toInt_le, ← Int32.toInt_inj, Int32.reduceToInt] at * <;> omega)))
    | ((repeat' split) <;> first | rfl | assumption | (symm; assumption) | (exfalso; (first | omega | (simp only [Int32.lt_iff_toInt_lt, Int32.le_iff_toInt_le, ← Int32.toInt_inj, Int32.reduceToInt] at * <;> omega))))
abbrev q_X5_taken_0 (G : gG) (h0 tt rd nw th kp sh tu n1 n2 n3 n4 n5 n6 n7 n8 : Nat) (v0 : Int32) (v1 : Int32) (A : Nat → Prop) : Array Value → State → Outcome → State → Prop := va_Ql (fun (r : Int64) (u : Unit) => match u with | _ => r = (if 0 ≤ v1 ∧ v1 ≤ 6 then (if 0 ≤ v0 ∧ v0 ≤ 9 then -11 else -12) else -2)) (fun (u : Unit) t => match u with | _ => True) A
set_option maxHeartbeats 4000000 in
set_option maxRecDepth 100000 in
theorem c_X5_taken_0 (l : Launch) (G : gG) (h0 tt rd nw th kp sh tu n1 n2 n3 n4 n5 n6 n7 n8 : Nat) (v0 : Int32) (v1 : Int32) (sz : Nat) : Met l yX5_taken wsX5_taken ({ frames := 1, cells := 0, slots := 0, locals := 21 }) (gPre G [.ref h0, .int v0, .int v1] [(h0, .inr (5, [.ref tt, .ref rd, .ref nw, .ref th, .ref kp, .ref sh, .ref tu, .int 0])), (nw, .inr (0, [.ref tt, .ref n1, .ref n2, .ref n3, .ref n4, .ref n5, .ref n6, .ref n7, .ref n8, .int 0, .int 0, .int 0]))] sz) (q_X5_taken_0 G h0 tt rd nw th kp sh tu n1 n2 n3 n4 n5 n6 n7 n8 v0 v1 (va_A [(h0, .inr (5, [.ref tt, .ref rd, .ref nw, .ref th, .ref kp, .ref sh, .ref tu, .int 0])), (nw, .inr (0, [.ref tt, .ref n1, .ref n2, .ref n3, .ref n4, .ref n5, .ref n6, .ref n7, .ref n8, .int 0, .int 0, .int 0]))] sz)) 0 0 (va_A [(h0, .inr (5, [.ref tt, .ref rd, .ref nw, .ref th, .ref kp, .ref sh, .ref tu, .int 0])), (nw, .inr (0, [.ref tt, .ref n1, .ref n2, .ref n3, .ref n4, .ref n5, .ref n6, .ref n7, .ref n8, .int 0, .int 0, .int 0]))] sz) := by
  refine Met.ofW (cc := cX5_taken) (maxL := 4) (ret := (some .long)) (by decide) rfl ?_
  intro p e s m args below meth c s₁ B hml hv
  obtain ⟨rfl, hsz, hP, hK, hD0⟩ := hv
  have hx := B.exec
  have hb := B.bytes
  have hr := B.returns
  have hts := atoms_spec (ws := wsX5_taken) B.pre
  have hown : s.vm.findClass RX5 = some m.cls := findClass_of_methodNamed B.named
  have hlocks := B.notSynchronized
  subst hsz
  have hD := hD0.self (sz := s.heap.size)
  generalize hAe : va_A [(h0, .inr (5, [.ref tt, .ref rd, .ref nw, .ref th, .ref kp, .ref sh, .ref tu, .int 0])), (nw, .inr (0, [.ref tt, .ref n1, .ref n2, .ref n3, .ref n4, .ref n5, .ref n6, .ref n7, .ref n8, .int 0, .int 0, .int 0]))] s.heap.size = A at hD ⊢
  have hA : ∀ q : Nat, s.heap.size ≤ q → A q := fun q h => by rw [← hAe]; exact Or.inr h
  have hS : va_S A s.heap s.heap [] := va_S.rf
  have hP : va_P G.1 vwCl [(h0, .inr (5, [.ref tt, .ref rd, .ref nw, .ref th, .ref kp, .ref sh, .ref tu, .int 0])), (nw, .inr (0, [.ref tt, .ref n1, .ref n2, .ref n3, .ref n4, .ref n5, .ref n6, .ref n7, .ref n8, .int 0, .int 0, .int 0]))] s.heap := hP
  have hD : va_D A [(h0, .inr (5, [.ref tt, .ref rd, .ref nw, .ref th, .ref kp, .ref sh, .ref tu, .int 0])), (nw, .inr (0, [.ref tt, .ref n1, .ref n2, .ref n3, .ref n4, .ref n5, .ref n6, .ref n7, .ref n8, .int 0, .int 0, .int 0]))] := hD
  have hl := lv_entry ([.ref h0, .int v0, .int v1]) (n := 4) (Nat.le_of_ble_eq_true rfl)
  rw [lg_entry_eq]
  generalize (lg_sl ([.ref h0, .int v0, .int v1]) ++ List.replicate (4 - (lg_sl ([.ref h0, .int v0, .int v1])).length) Slot.unset).toArray = ls at hl ⊢
  have hl : lv_has ls 4 [(0, .ref h0), (1, .int v0), (2, .int v1)] := hl
  have kf28 := hts (.fieldLink RX5 28 "PebbleInShoe" "now" "LPebbleInShoe$Court;") (by decide +kernel)
  have hiX5 := (by decide +kernel : ∀ w ∈ wsX50, w ∈ wsX5_taken)
  refine lv_iload_n hx hb dX5_taken_0 rfl (lv_at hl 2 rfl) ?_
  refine lv_bipush (v := 6) hx hb dX5_taken_1 (by decide) ?_
  have hPc : va_P G.1 vwCl [] s.heap := hP.sub [] rfl
  have hDc : va_D A [] := hD.sub [] (by decide) rfl
  have hFc := va_free (wc := []) hD hS hA [] rfl
  refine va_calli (va_runS (As := [.int v1, .int 6]) (rest := []) ⟨hx, hb, hml, hown, hts⟩ (c_X5_within l G v1 6 s.heap.size) (va_cwS 2 hts gX5_taken_X5_within rfl rfl rfl (by decide +kernel) ⟨Nat.le_of_ble_eq_true rfl, Nat.le_of_ble_eq_true rfl⟩) ⟨gPre_blind, fun U hU hW => gPre_of hU hW hK hPc hDc⟩ rfl rfl hl.1 rfl (lv_room (Nat.le_of_ble_eq_true rfl)) dX5_taken_3 ⟨Nat.le_of_ble_eq_true rfl, Nat.le_of_ble_eq_true rfl⟩) hS (fun q _ h => hFc q h) hFc (fun r_1 u t H locs ht hvm w_2 hB hz1 hk1 hS => ?_)
  obtain ⟨hP1, hK1, hD1⟩ := hB
  rw [ht] at hP1
  have hP1 : va_P G.1 vwCl [] H := hP1
  have hD1 : va_D (va_A [] s.heap.size) [] := hD1
  have w_2 : r_1 = bz (decide (0 ≤ v1 ∧ v1 ≤ 6)) := w_2
  obtain ⟨hP, hD⟩ := va_join (wr := [(h0, .inr (5, [.ref tt, .ref rd, .ref nw, .ref th, .ref kp, .ref sh, .ref tu, .int 0])), (nw, .inr (0, [.ref tt, .ref n1, .ref n2, .ref n3, .ref n4, .ref n5, .ref n6, .ref n7, .ref n8, .int 0, .int 0, .int 0]))]) (w1 := []) hP hD [] [0, 1] rfl rfl (by decide) (by decide) hk1 hFc hP1 hD1
  have hP : va_P G.1 vwCl [(h0, .inr (5, [.ref tt, .ref rd, .ref nw, .ref th, .ref kp, .ref sh, .ref tu, .int 0])), (nw, .inr (0, [.ref tt, .ref n1, .ref n2, .ref n3, .ref n4, .ref n5, .ref n6, .ref n7, .ref n8, .int 0, .int 0, .int 0]))] H := hP
  have hD : va_D A [(h0, .inr (5, [.ref tt, .ref rd, .ref nw, .ref th, .ref kp, .ref sh, .ref tu, .int 0])), (nw, .inr (0, [.ref tt, .ref n1, .ref n2, .ref n3, .ref n4, .ref n5, .ref n6, .ref n7, .ref n8, .int 0, .int 0, .int 0]))] := hD
  refine lv_if_ne (tgt := 13) hx hb dX5_taken_6 (by decide) (fun c_3 => ?_) (fun c_3 => ?_)
  · skip
    have p_4 : 0 ≤ v1 ∧ v1 ≤ 6 := of_decide_eq_true (bz_ne w_2 c_3)
    refine lv_iload_n hx hb dX5_taken_13 rfl (lv_at hl 1 rfl) ?_
    refine lv_bipush (v := 9) hx hb dX5_taken_14 (by decide) ?_
    have hPc : va_P G.1 vwCl [] H := hP.sub [] rfl
    have hDc : va_D A [] := hD.sub [] (by decide) rfl
    have hFc := va_free (wc := []) hD hS hA [] rfl
    refine va_calli (va_runS (As := [.int v0, .int 9]) (rest := []) ⟨hx, hb, hml, hown, hts⟩ (c_X5_within l G v0 9 H.size) (va_cwS 2 hts gX5_taken_X5_within rfl rfl rfl (by decide +kernel) ⟨Nat.le_of_ble_eq_true rfl, Nat.le_of_ble_eq_true rfl⟩) ⟨gPre_blind, fun U hU hW => gPre_of hU hW hK hPc hDc⟩ rfl rfl hl.1 rfl (lv_room (Nat.le_of_ble_eq_true rfl)) dX5_taken_16 ⟨Nat.le_of_ble_eq_true rfl, Nat.le_of_ble_eq_true rfl⟩) hS (fun q _ h => hFc q h) hFc (fun r_6 u t H locs ht hvm w_7 hB hz1 hk1 hS => ?_)
    obtain ⟨hP1, hK1, hD1⟩ := hB
    rw [ht] at hP1
    have hP1 : va_P G.1 vwCl [] H := hP1
    have hD1 : va_D (va_A [] _) [] := hD1
    have w_7 : r_6 = bz (decide (0 ≤ v0 ∧ v0 ≤ 9)) := w_7
    obtain ⟨hP, hD⟩ := va_join (wr := [(h0, .inr (5, [.ref tt, .ref rd, .ref nw, .ref th, .ref kp, .ref sh, .ref tu, .int 0])), (nw, .inr (0, [.ref tt, .ref n1, .ref n2, .ref n3, .ref n4, .ref n5, .ref n6, .ref n7, .ref n8, .int 0, .int 0, .int 0]))]) (w1 := []) hP hD [] [0, 1] rfl rfl (by decide) (by decide) hk1 hFc hP1 hD1
    have hP : va_P G.1 vwCl [(h0, .inr (5, [.ref tt, .ref rd, .ref nw, .ref th, .ref kp, .ref sh, .ref tu, .int 0])), (nw, .inr (0, [.ref tt, .ref n1, .ref n2, .ref n3, .ref n4, .ref n5, .ref n6, .ref n7, .ref n8, .int 0, .int 0, .int 0]))] H := hP
    have hD : va_D A [(h0, .inr (5, [.ref tt, .ref rd, .ref nw, .ref th, .ref kp, .ref sh, .ref tu, .int 0])), (nw, .inr (0, [.ref tt, .ref n1, .ref n2, .ref n3, .ref n4, .ref n5, .ref n6, .ref n7, .ref n8, .int 0, .int 0, .int 0]))] := hD
    refine lv_if_ne (tgt := 26) hx hb dX5_taken_19 (by decide) (fun c_8 => ?_) (fun c_8 => ?_)
    · skip
      have p_9 : 0 ≤ v0 ∧ v0 ≤ 9 := of_decide_eq_true (bz_ne w_7 c_8)
      refine lv_iload_n hx hb dX5_taken_26 rfl (lv_at hl 1 rfl) ?_
      refine lv_bipush (v := 6) hx hb dX5_taken_27 (by decide) ?_
      refine lv_icmp_lt (tgt := 75) hx hb dX5_taken_29 (by decide) (fun c_11 => ?_) (fun c_11 => ?_)
      · skip
        refine lv_aload_n hx hb dX5_taken_75 rfl (lv_at hl 0 rfl) ?_
        refine va_get (D := G.1) (ci := 5) (v := .ref nw) (C := RX5) (T := TX5) (N := 8) hx hb hts hiX5 hown hK hP 0 rfl rfl 2 (by decide) kf28 (fun _ h9 => h9) rfl dX5_taken_76 ?_
        refine lv_iload_n hx hb dX5_taken_79 rfl (lv_at hl 1 rfl) ?_
        have hPc : va_P G.1 vwCl [(nw, .inr (0, [.ref tt, .ref n1, .ref n2, .ref n3, .ref n4, .ref n5, .ref n6, .ref n7, .ref n8, .int 0, .int 0, .int 0]))] H := hP.sub [1] rfl
        have hDc : va_D A [(nw, .inr (0, [.ref tt, .ref n1, .ref n2, .ref n3, .ref n4, .ref n5, .ref n6, .ref n7, .ref n8, .int 0, .int 0, .int 0]))] := hD.sub [1] (by decide) rfl
        have hFc := va_free (wc := [(nw, .inr (0, [.ref tt, .ref n1, .ref n2, .ref n3, .ref n4, .ref n5, .ref n6, .ref n7, .ref n8, .int 0, .int 0, .int 0]))]) hD hS hA [1] rfl
        refine va_calli (va_runV (As := [.int v0]) (rest := []) ⟨hx, hb, hml, hown, hts⟩ (c_X0_hasPebble_0 l G nw tt n1 n2 n3 n4 n5 n6 n7 n8 v0 H.size) (cwV 1 hts gX5_taken_X0_hasPebble rfl rfl rfl (by decide +kernel) ⟨Nat.le_of_ble_eq_true rfl, Nat.le_of_ble_eq_true rfl⟩) ⟨gPre_blind, va_recv hK hPc (ci := 0) (q0 := 0) rfl rfl, fun U hU hW => gPre_of hU hW hK hPc hDc⟩ rfl rfl hl.1 rfl (lv_room (Nat.le_of_ble_eq_true rfl)) dX5_taken_80 ⟨Nat.le_of_ble_eq_true rfl, Nat.le_of_ble_eq_true rfl⟩) hS (fun q _ h => hFc q h) hFc (fun r_12 u t H locs ht hvm w_13 hB hz1 hk1 hS => ?_)
        obtain ⟨hP1, hK1, hD1⟩ := hB
        rw [ht] at hP1
        have hP1 : va_P G.1 vwCl [(nw, .inr (0, [.ref tt, .ref n1, .ref n2, .ref n3, .ref n4, .ref n5, .ref n6, .ref n7, .ref n8, .int 0, .int 0, .int 0]))] H := hP1
        have hD1 : va_D (va_A [(nw, .inr (0, [.ref tt, .ref n1, .ref n2, .ref n3, .ref n4, .ref n5, .ref n6, .ref n7, .ref n8, .int 0, .int 0, .int 0]))] _) [(nw, .inr (0, [.ref tt, .ref n1, .ref n2, .ref n3, .ref n4, .ref n5, .ref n6, .ref n7, .ref n8, .int 0, .int 0, .int 0]))] := hD1
        have w_13 : r_12 = 0 := w_13
        obtain ⟨hP, hD⟩ := va_join (wr := [(h0, .inr (5, [.ref tt, .ref rd, .ref nw, .ref th, .ref kp, .ref sh, .ref tu, .int 0]))]) (w1 := [(nw, .inr (0, [.ref tt, .ref n1, .ref n2, .ref n3, .ref n4, .ref n5, .ref n6, .ref n7, .ref n8, .int 0, .int 0, .int 0]))]) hP hD [1] [0] rfl rfl (by decide) (by decide) hk1 hFc hP1 hD1
        have hP : va_P G.1 vwCl [(h0, .inr (5, [.ref tt, .ref rd, .ref nw, .ref th, .ref kp, .ref sh, .ref tu, .int 0])), (nw, .inr (0, [.ref tt, .ref n1, .ref n2, .ref n3, .ref n4, .ref n5, .ref n6, .ref n7, .ref n8, .int 0, .int 0, .int 0]))] H := hP
        have hD : va_D A [(h0, .inr (5, [.ref tt, .ref rd, .ref nw, .ref th, .ref kp, .ref sh, .ref tu, .int 0])), (nw, .inr (0, [.ref tt, .ref n1, .ref n2, .ref n3, .ref n4, .ref n5, .ref n6, .ref n7, .ref n8, .int 0, .int 0, .int 0]))] := hD
        have w_13 : r_12 = 0 := w_13
        subst w_13
        refine lv_if_ne (tgt := 90) hx hb dX5_taken_83 (by decide) (fun c_14 => ?_) (fun c_14 => ?_)
        · exact absurd (by decide) c_14
        refine lv_ldc2 hx hb hown (hts (.constantLong RX5 252 (-11)) (by decide +kernel)) dX5_taken_86 ?_
        have hpost : (fun (r : Int64) (u : Unit) => match u with | _ => r = (if 0 ≤ v1 ∧ v1 ≤ 6 then (if 0 ≤ v0 ∧ v0 ≤ 9 then -11 else -12) else -2)) (-11) () := pp_X5_taken_0_1 v0 v1 p_4 p_9 c_11
        exact W.lret (v := (-11)) hx hb hr (fun t ht hW => ⟨⟨(-11), (), rfl, hpost, trivial⟩, hS.F ht⟩) hS.2.2 dX5_taken_89
      · skip
        refine lv_iload_n hx hb dX5_taken_32 rfl (lv_at hl 1 rfl) ?_
        refine lv_bipush (v := 6) hx hb dX5_taken_33 (by decide) ?_
        refine lv_isub hx hb dX5_taken_35 ?_
        refine lv_istore_n (lv' := [(3, .int (v0 - 6)), (0, .ref h0), (1, .int v0), (2, .int v1)]) hx hb dX5_taken_36 rfl hl (by decide) rfl (fun ls hl => ?_)
        refine lv_aload_n hx hb dX5_taken_37 rfl (lv_at hl 1 rfl) ?_
        refine va_get (D := G.1) (ci := 5) (v := .ref nw) (C := RX5) (T := TX5) (N := 8) hx hb hts hiX5 hown hK hP 0 rfl rfl 2 (by decide) kf28 (fun _ h9 => h9) rfl dX5_taken_38 ?_
        refine lv_iload_n hx hb dX5_taken_41 rfl (lv_at hl 0 rfl) ?_
        have hPc : va_P G.1 vwCl [(nw, .inr (0, [.ref tt, .ref n1, .ref n2, .ref n3, .ref n4, .ref n5, .ref n6, .ref n7, .ref n8, .int 0, .int 0, .int 0]))] H := hP.sub [1] rfl
        have hDc : va_D A [(nw, .inr (0, [.ref tt, .ref n1, .ref n2, .ref n3, .ref n4, .ref n5, .ref n6, .ref n7, .ref n8, .int 0, .int 0, .int 0]))] := hD.sub [1] (by decide) rfl
        have hFc := va_free (wc := [(nw, .inr (0, [.ref tt, .ref n1, .ref n2, .ref n3, .ref n4, .ref n5, .ref n6, .ref n7, .ref n8, .int 0, .int 0, .int 0]))]) hD hS hA [1] rfl
        refine va_calli (va_runV (As := [.int (v0 - 6)]) (rest := []) ⟨hx, hb, hml, hown, hts⟩ (c_X0_hasJudge_0 l G nw tt n1 n2 n3 n4 n5 n6 n7 n8 (v0 - 6) H.size) (cwV 1 hts gX5_taken_X0_hasJudge rfl rfl rfl (by decide +kernel) ⟨Nat.le_of_ble_eq_true rfl, Nat.le_of_ble_eq_true rfl⟩) ⟨gPre_blind, va_recv hK hPc (ci := 0) (q0 := 0) rfl rfl, fun U hU hW => gPre_of hU hW hK hPc hDc⟩ rfl rfl hl.1 rfl (lv_room (Nat.le_of_ble_eq_true rfl)) dX5_taken_42 ⟨Nat.le_of_ble_eq_true rfl, Nat.le_of_ble_eq_true rfl⟩) hS (fun q _ h => hFc q h) hFc (fun r_15 u t H locs ht hvm w_16 hB hz1 hk1 hS => ?_)
        obtain ⟨hP1, hK1, hD1⟩ := hB
        rw [ht] at hP1
        have hP1 : va_P G.1 vwCl [(nw, .inr (0, [.ref tt, .ref n1, .ref n2, .ref n3, .ref n4, .ref n5, .ref n6, .ref n7, .ref n8, .int 0, .int 0, .int 0]))] H := hP1
        have hD1 : va_D (va_A [(nw, .inr (0, [.ref tt, .ref n1, .ref n2, .ref n3, .ref n4, .ref n5, .ref n6, .ref n7, .ref n8, .int 0, .int 0, .int 0]))] _) [(nw, .inr (0, [.ref tt, .ref n1, .ref n2, .ref n3, .ref n4, .ref n5, .ref n6, .ref n7, .ref n8, .int 0, .int 0, .int 0]))] := hD1
        have w_16 : r_15 = 0 := w_16
        obtain ⟨hP, hD⟩ := va_join (wr := [(h0, .inr (5, [.ref tt, .ref rd, .ref nw, .ref th, .ref kp, .ref sh, .ref tu, .int 0]))]) (w1 := [(nw, .inr (0, [.ref tt, .ref n1, .ref n2, .ref n3, .ref n4, .ref n5, .ref n6, .ref n7, .ref n8, .int 0, .int 0, .int 0]))]) hP hD [1] [0] rfl rfl (by decide) (by decide) hk1 hFc hP1 hD1
        have hP : va_P G.1 vwCl [(h0, .inr (5, [.ref tt, .ref rd, .ref nw, .ref th, .ref kp, .ref sh, .ref tu, .int 0])), (nw, .inr (0, [.ref tt, .ref n1, .ref n2, .ref n3, .ref n4, .ref n5, .ref n6, .ref n7, .ref n8, .int 0, .int 0, .int 0]))] H := hP
        have hD : va_D A [(h0, .inr (5, [.ref tt, .ref rd, .ref nw, .ref th, .ref kp, .ref sh, .ref tu, .int 0])), (nw, .inr (0, [.ref tt, .ref n1, .ref n2, .ref n3, .ref n4, .ref n5, .ref n6, .ref n7, .ref n8, .int 0, .int 0, .int 0]))] := hD
        have w_16 : r_15 = 0 := w_16
        subst w_16
        refine lv_if_ne (tgt := 52) hx hb dX5_taken_45 (by decide) (fun c_17 => ?_) (fun c_17 => ?_)
        · exact absurd (by decide) c_17
        refine lv_ldc2 hx hb hown (hts (.constantLong RX5 252 (-11)) (by decide +kernel)) dX5_taken_48 ?_
        have hpost : (fun (r : Int64) (u : Unit) => match u with | _ => r = (if 0 ≤ v1 ∧ v1 ≤ 6 then (if 0 ≤ v0 ∧ v0 ≤ 9 then -11 else -12) else -2)) (-11) () := pp_X5_taken_0_2 v0 v1 p_4 p_9 c_11
        exact W.lret (v := (-11)) hx hb hr (fun t ht hW => ⟨⟨(-11), (), rfl, hpost, trivial⟩, hS.F ht⟩) hS.2.2 dX5_taken_51
    · skip
      have n_10 : ¬ (0 ≤ v0 ∧ v0 ≤ 9) := of_decide_eq_false (bz_eq w_7 c_8)
      refine lv_ldc2 hx hb hown (hts (.constantLong RX5 250 (-12)) (by decide +kernel)) dX5_taken_22 ?_
      have hpost : (fun (r : Int64) (u : Unit) => match u with | _ => r = (if 0 ≤ v1 ∧ v1 ≤ 6 then (if 0 ≤ v0 ∧ v0 ≤ 9 then -11 else -12) else -2)) (-12) () := pp_X5_taken_0_3 v0 v1 p_4 n_10
      exact W.lret (v := (-12)) hx hb hr (fun t ht hW => ⟨⟨(-12), (), rfl, hpost, trivial⟩, hS.F ht⟩) hS.2.2 dX5_taken_25
  · skip
    have n_5 : ¬ (0 ≤ v1 ∧ v1 ≤ 6) := of_decide_eq_false (bz_eq w_2 c_3)
    refine lv_ldc2 hx hb hown (hts (.constantLong RX5 248 (-2)) (by decide +kernel)) dX5_taken_9 ?_
    have hpost : (fun (r : Int64) (u : Unit) => match u with | _ => r = (if 0 ≤ v1 ∧ v1 ≤ 6 then (if 0 ≤ v0 ∧ v0 ≤ 9 then -11 else -12) else -2)) (-2) () := pp_X5_taken_0_4 v0 v1 n_5
    exact W.lret (v := (-2)) hx hb hr (fun t ht hW => ⟨⟨(-2), (), rfl, hpost, trivial⟩, hS.F ht⟩) hS.2.2 dX5_taken_12
