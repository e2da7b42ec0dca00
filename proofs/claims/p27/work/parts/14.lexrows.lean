theorem pp_X1_isLetter_1 (f : Nat → Int32) (x2 : Int32) (x3 : Int32) (x4 : Int32) (x5 : Int32) (x6 : Int32) (a : Nat) (c_2 : (f a) < 97) : (0 : Int32) = bz (mLet (f a)) := by
  first
    | rfl
    | exact bz_pos (by (first | omega | (simp only [Int32.lt_iff_toInt_lt, Int32.le_iff_toInt_le, ← Int32.toInt_inj, Int32.reduceToInt] at * <;> omega)))
    | exact bz_neg (by (first | omega | (simp only [Int32.lt_iff_toInt_lt, Int32.le_iff_toInt_le, ← Int32.toInt_inj, Int32.reduceToInt] at * <;> omega)))
    | ((repeat' split) <;> first | rfl | assumption | (symm; assumption) | (exfalso; (first | omega | (simp only [Int32.lt_iff_toInt_lt, Int32.le_iff_toInt_le, ← Int32.toInt_inj, Int32.reduceToInt] at * <;> omega))))
theorem pp_X1_isLetter_2 (f : Nat → Int32) (x2 : Int32) (x3 : Int32) (x4 : Int32) (x5 : Int32) (x6 : Int32) (a : Nat) (c_2 : ¬ ((f a) < 97)) (c_4 : 122 < (f a)) : (0 : Int32) = bz (mLet (f a)) := by
  first
    | rfl
    | exact bz_pos (by (first | omega | (simp only [Int32.lt_iff_toInt_lt, Int32.le_iff_toInt_le, ← Int32.toInt_inj, Int32.reduceToInt] at * <;> omega)))
    | exact bz_neg (by (first | omega | (simp only [Int32.lt_iff_toInt_lt, Int32.le_iff_toInt_le, ← Int32.toInt_inj, Int32.reduceToInt] at * <;> omega)))
    | ((repeat' split) <;> first | rfl | assumption | (symm; assumption) | (exfalso; (first | omega | (simp only [Int32.lt_iff_toInt_lt, Int32.le_iff_toInt_le, ← Int32.toInt_inj, Int32.reduceToInt] at * <;> omega))))
theorem pp_X1_isLetter_3 (f : Nat → Int32) (x2 : Int32) (x3 : Int32) (x4 : Int32) (x5 : Int32) (x6 : Int32) (a : Nat) (c_2 : ¬ ((f a) < 97)) (c_4 : ¬ (122 < (f a))) : (1 : Int32) = bz (mLet (f a)) := by
  first
    | rfl
    | exact bz_pos (by (first | omega | (simp only [Int32.lt_iff_toInt_lt, Int32.le_iff_toInt_le, ← Int32.toInt_inj, Int32.reduceToInt] at * <;> omega)))
    | exact bz_neg (by (first | omega | (simp only [Int32.lt_iff_toInt_lt, Int32.le_iff_toInt_le, ← Int32.toInt_inj, Int32.reduceToInt] at * <;> omega)))
    | ((repeat' split) <;> first | rfl | assumption | (symm; assumption) | (exfalso; (first | omega | (simp only [Int32.lt_iff_toInt_lt, Int32.le_iff_toInt_le, ← Int32.toInt_inj, Int32.reduceToInt] at * <;> omega))))
abbrev q_X1_isLetter (G : gG) (h0 t0 b0 : Nat) (f : Nat → Int32) (x2 : Int32) (x3 : Int32) (x4 : Int32) (x5 : Int32) (x6 : Int32) (a : Nat) (A : Nat → Prop) : Array Value → State → Outcome → State → Prop := va_Qi (fun (r : Int32) (u : Unit) => match u with | _ => r = bz (mLet (f a))) (fun (u : Unit) t => match u with | _ => va_P G.1 vwCl [zo1 h0 t0 b0 x2 x3 x4 x5 x6, zi G b0 160 f] t.heap ∧ gK G t ∧ va_D A [zo1 h0 t0 b0 x2 x3 x4 x5 x6, zi G b0 160 f]) A
set_option maxHeartbeats 4000000 in
set_option maxRecDepth 100000 in
theorem c_X1_isLetter (l : Launch) (G : gG) (h0 t0 b0 : Nat) (f : Nat → Int32) (x2 : Int32) (x3 : Int32) (x4 : Int32) (x5 : Int32) (x6 : Int32) (a : Nat) (sz : Nat) (ha : a < 160) : Met l yX1_isLetter wsX1_isLetter ({ frames := 0, cells := 0, slots := 0, locals := 0 }) (gPre G [.ref h0, .int (nI a)] [zo1 h0 t0 b0 x2 x3 x4 x5 x6, zi G b0 160 f] sz) (q_X1_isLetter G h0 t0 b0 f x2 x3 x4 x5 x6 a (va_A [zo1 h0 t0 b0 x2 x3 x4 x5 x6, zi G b0 160 f] sz)) 0 0 (va_A [zo1 h0 t0 b0 x2 x3 x4 x5 x6, zi G b0 160 f] sz) := by
  refine Met.ofW (cc := cX1_isLetter) (maxL := 2) (ret := (some .boolean)) (by decide) rfl ?_
  intro p e s m args below meth c s₁ B hml hv
  obtain ⟨rfl, hsz, hP, hK, hD0⟩ := hv
  have hx := B.exec
  have hb := B.bytes
  have hr := B.returns
  have hts := atoms_spec (ws := wsX1_isLetter) B.pre
  have hown : s.vm.findClass RX1 = some m.cls := findClass_of_methodNamed B.named
  have hlocks := B.notSynchronized
  subst hsz
  have hD := hD0.self (sz := s.heap.size)
  generalize hAe : va_A [zo1 h0 t0 b0 x2 x3 x4 x5 x6, zi G b0 160 f] s.heap.size = A at hD ⊢
  have hA : ∀ q : Nat, s.heap.size ≤ q → A q := fun q h => by rw [← hAe]; exact Or.inr h
  have hS : va_S A s.heap s.heap [] := va_S.rf
  have hP : va_P G.1 vwCl [zo1 h0 t0 b0 x2 x3 x4 x5 x6, zi G b0 160 f] s.heap := hP
  have hD : va_D A [zo1 h0 t0 b0 x2 x3 x4 x5 x6, zi G b0 160 f] := hD
  have hl := lv_entry ([.ref h0, .int (nI a)]) (n := 2) (Nat.le_of_ble_eq_true rfl)
  rw [lg_entry_eq]
  generalize (lg_sl ([.ref h0, .int (nI a)]) ++ List.replicate (2 - (lg_sl ([.ref h0, .int (nI a)])).length) Slot.unset).toArray = ls at hl ⊢
  have hl : lv_has ls 2 [zR 0 h0, zI 1 (nI a)] := hl
  have kf9 := hts (.fieldLink RX1 9 "PebbleInShoe$Reader" "bytes" "[I") (by decide +kernel)
  have hiX1 := (by decide +kernel : ∀ w ∈ wsX10, w ∈ wsX1_isLetter)
  refine lv_aload_n hx hb dX1_isLetter_0 rfl (lv_at hl 0 rfl) ?_
  refine va_get (D := G.1) (ci := 1) (v := .ref b0) (C := RX1) (T := TX1) (N := 7) hx hb hts hiX1 hown hK hP 0 rfl rfl 1 (by decide) kf9 (fun _ h9 => h9) rfl dX1_isLetter_1 ?_
  refine lv_iload_n hx hb dX1_isLetter_4 rfl (lv_at hl 1 rfl) ?_
  refine va_iald (D := G.1) hx hb hK hP 1 0 rfl rfl (i := (nI a)) (vp_in_nI (by omega) (by omega)) dX1_isLetter_5 ?_
  refine lv_topi (fun v_1 ev_1 => ?_)
  have ev_1 : v_1 = f a := ev_1.trans (by rw [nI_clamp (by omega)])
  subst ev_1
  refine lv_bipush (v := 97) hx hb dX1_isLetter_6 (by decide) ?_
  refine lv_icmp_lt (tgt := 26) hx hb dX1_isLetter_8 (by decide) (fun c_2 => ?_) (fun c_2 => ?_)
  · skip
    refine lv_iconst (v := 0) hx hb dX1_isLetter_26 (by decide) ?_
    have hP9 := hP.sub (ws' := [zo1 h0 t0 b0 x2 x3 x4 x5 x6, zi G b0 160 f]) [0, 1] rfl
    have hD9 := hD.sub (ws' := [zo1 h0 t0 b0 x2 x3 x4 x5 x6, zi G b0 160 f]) [0, 1] (by decide) rfl
    have hpost : (fun (r : Int32) (u : Unit) => match u with | _ => r = bz (mLet (f a))) 0 () := pp_X1_isLetter_1 f x2 x3 x4 x5 x6 a c_2
    exact W.zret (v := 0) hx hb hr (rfl) (fun t ht hW => ⟨⟨0, (), rfl, hpost, by rw [ht]; exact hP9, va_K.moved hW.alike hK, hD9⟩, hS.F ht⟩) hS.2.2 dX1_isLetter_27
  · skip
    refine lv_aload_n hx hb dX1_isLetter_11 rfl (lv_at hl 0 rfl) ?_
    refine va_get (D := G.1) (ci := 1) (v := .ref b0) (C := RX1) (T := TX1) (N := 7) hx hb hts hiX1 hown hK hP 0 rfl rfl 1 (by decide) kf9 (fun _ h9 => h9) rfl dX1_isLetter_12 ?_
    refine lv_iload_n hx hb dX1_isLetter_15 rfl (lv_at hl 1 rfl) ?_
    refine va_iald (D := G.1) hx hb hK hP 1 0 rfl rfl (i := (nI a)) (vp_in_nI (by omega) (by omega)) dX1_isLetter_16 ?_
    refine lv_topi (fun v_3 ev_3 => ?_)
    have ev_3 : v_3 = f a := ev_3.trans (by rw [nI_clamp (by omega)])
    subst ev_3
    refine lv_bipush (v := 122) hx hb dX1_isLetter_17 (by decide) ?_
    refine lv_icmp_gt (tgt := 26) hx hb dX1_isLetter_19 (by decide) (fun c_4 => ?_) (fun c_4 => ?_)
    · skip
      refine lv_iconst (v := 0) hx hb dX1_isLetter_26 (by decide) ?_
      have hP9 := hP.sub (ws' := [zo1 h0 t0 b0 x2 x3 x4 x5 x6, zi G b0 160 f]) [0, 1] rfl
      have hD9 := hD.sub (ws' := [zo1 h0 t0 b0 x2 x3 x4 x5 x6, zi G b0 160 f]) [0, 1] (by decide) rfl
      have hpost : (fun (r : Int32) (u : Unit) => match u with | _ => r = bz (mLet (f a))) 0 () := pp_X1_isLetter_2 f x2 x3 x4 x5 x6 a c_2 c_4
      exact W.zret (v := 0) hx hb hr (rfl) (fun t ht hW => ⟨⟨0, (), rfl, hpost, by rw [ht]; exact hP9, va_K.moved hW.alike hK, hD9⟩, hS.F ht⟩) hS.2.2 dX1_isLetter_27
    · skip
      refine lv_iconst (v := 1) hx hb dX1_isLetter_22 (by decide) ?_
      refine lv_goto (tgt := 27) hx hb dX1_isLetter_23 (by decide) ?_
      have hP9 := hP.sub (ws' := [zo1 h0 t0 b0 x2 x3 x4 x5 x6, zi G b0 160 f]) [0, 1] rfl
      have hD9 := hD.sub (ws' := [zo1 h0 t0 b0 x2 x3 x4 x5 x6, zi G b0 160 f]) [0, 1] (by decide) rfl
      have hpost : (fun (r : Int32) (u : Unit) => match u with | _ => r = bz (mLet (f a))) 1 () := pp_X1_isLetter_3 f x2 x3 x4 x5 x6 a c_2 c_4
      exact W.zret (v := 1) hx hb hr (rfl) (fun t ht hW => ⟨⟨1, (), rfl, hpost, by rw [ht]; exact hP9, va_K.moved hW.alike hK, hD9⟩, hS.F ht⟩) hS.2.2 dX1_isLetter_27
theorem pp_X1_isDigit_1 (f : Nat → Int32) (x2 : Int32) (x3 : Int32) (x4 : Int32) (x5 : Int32) (x6 : Int32) (a : Nat) (c_2 : (f a) < 48) : (0 : Int32) = bz (mDig (f a)) := by
  first
    | rfl
    | exact bz_pos (by (first | omega | (simp only [Int32.lt_iff_toInt_lt, Int32.le_iff_toInt_le, ← Int32.toInt_inj, Int32.reduceToInt] at * <;> omega)))
    | exact bz_neg (by (first | omega | (simp only [Int32.lt_iff_toInt_lt, Int32.le_iff_toInt_le, ← Int32.toInt_inj, Int32.reduceToInt] at * <;> omega)))
    | ((repeat' split) <;> first | rfl | assumption | (symm; assumption) | (exfalso; (first | omega | (simp only [Int32.lt_iff_toInt_lt, Int32.le_iff_toInt_le, ← Int32.toInt_inj, Int32.reduceToInt] at * <;> omega))))
theorem pp_X1_isDigit_2 (f : Nat → Int32) (x2 : Int32) (x3 : Int32) (x4 : Int32) (x5 : Int32) (x6 : Int32) (a : Nat) (c_2 : ¬ ((f a) < 48)) (c_4 : 57 < (f a)) : (0 : Int32) = bz (mDig (f a)) := by
  first
    | rfl
    | exact bz_pos (by (first | omega | (simp only [Int32.lt_iff_toInt_lt, Int32.le_iff_toInt_le, ← Int32.toInt_inj, Int32.reduceToInt] at * <;> omega)))
    | exact bz_neg (by (first | omega | (simp only [Int32.lt_iff_toInt_lt, Int32.le_iff_toInt_le, ← Int32.toInt_inj, Int32.reduceToInt] at * <;> omega)))
    | ((repeat' split) <;> first | rfl | assumption | (symm; assumption) | (exfalso; (first | omega | (simp only [Int32.lt_iff_toInt_lt, Int32.le_iff_toInt_le, ← Int32.toInt_inj, Int32.reduceToInt] at * <;> omega))))
theorem pp_X1_isDigit_3 (f : Nat → Int32) (x2 : Int32) (x3 : Int32) (x4 : Int32) (x5 : Int32) (x6 : Int32) (a : Nat) (c_2 : ¬ ((f a) < 48)) (c_4 : ¬ (57 < (f a))) : (1 : Int32) = bz (mDig (f a)) := by
  first
    | rfl
    | exact bz_pos (by (first | omega | (simp only [Int32.lt_iff_toInt_lt, Int32.le_iff_toInt_le, ← Int32.toInt_inj, Int32.reduceToInt] at * <;> omega)))
    | exact bz_neg (by (first | omega | (simp only [Int32.lt_iff_toInt_lt, Int32.le_iff_toInt_le, ← Int32.toInt_inj, Int32.reduceToInt] at * <;> omega)))
    | ((repeat' split) <;> first | rfl | assumption | (symm; assumption) | (exfalso; (first | omega | (simp only [Int32.lt_iff_toInt_lt, Int32.le_iff_toInt_le, ← Int32.toInt_inj, Int32.reduceToInt] at * <;> omega))))
abbrev q_X1_isDigit (G : gG) (h0 t0 b0 : Nat) (f : Nat → Int32) (x2 : Int32) (x3 : Int32) (x4 : Int32) (x5 : Int32) (x6 : Int32) (a : Nat) (A : Nat → Prop) : Array Value → State → Outcome → State → Prop := va_Qi (fun (r : Int32) (u : Unit) => match u with | _ => r = bz (mDig (f a))) (fun (u : Unit) t => match u with | _ => va_P G.1 vwCl [zo1 h0 t0 b0 x2 x3 x4 x5 x6, zi G b0 160 f] t.heap ∧ gK G t ∧ va_D A [zo1 h0 t0 b0 x2 x3 x4 x5 x6, zi G b0 160 f]) A
set_option maxHeartbeats 4000000 in
set_option maxRecDepth 100000 in
theorem c_X1_isDigit (l : Launch) (G : gG) (h0 t0 b0 : Nat) (f : Nat → Int32) (x2 : Int32) (x3 : Int32) (x4 : Int32) (x5 : Int32) (x6 : Int32) (a : Nat) (sz : Nat) (ha : a < 160) : Met l yX1_isDigit wsX1_isDigit ({ frames := 0, cells := 0, slots := 0, locals := 0 }) (gPre G [.ref h0, .int (nI a)] [zo1 h0 t0 b0 x2 x3 x4 x5 x6, zi G b0 160 f] sz) (q_X1_isDigit G h0 t0 b0 f x2 x3 x4 x5 x6 a (va_A [zo1 h0 t0 b0 x2 x3 x4 x5 x6, zi G b0 160 f] sz)) 0 0 (va_A [zo1 h0 t0 b0 x2 x3 x4 x5 x6, zi G b0 160 f] sz) := by
  refine Met.ofW (cc := cX1_isDigit) (maxL := 2) (ret := (some .boolean)) (by decide) rfl ?_
  intro p e s m args below meth c s₁ B hml hv
  obtain ⟨rfl, hsz, hP, hK, hD0⟩ := hv
  have hx := B.exec
  have hb := B.bytes
  have hr := B.returns
  have hts := atoms_spec (ws := wsX1_isDigit) B.pre
  have hown : s.vm.findClass RX1 = some m.cls := findClass_of_methodNamed B.named
  have hlocks := B.notSynchronized
  subst hsz
  have hD := hD0.self (sz := s.heap.size)
  generalize hAe : va_A [zo1 h0 t0 b0 x2 x3 x4 x5 x6, zi G b0 160 f] s.heap.size = A at hD ⊢
  have hA : ∀ q : Nat, s.heap.size ≤ q → A q := fun q h => by rw [← hAe]; exact Or.inr h
  have hS : va_S A s.heap s.heap [] := va_S.rf
  have hP : va_P G.1 vwCl [zo1 h0 t0 b0 x2 x3 x4 x5 x6, zi G b0 160 f] s.heap := hP
  have hD : va_D A [zo1 h0 t0 b0 x2 x3 x4 x5 x6, zi G b0 160 f] := hD
  have hl := lv_entry ([.ref h0, .int (nI a)]) (n := 2) (Nat.le_of_ble_eq_true rfl)
  rw [lg_entry_eq]
  generalize (lg_sl ([.ref h0, .int (nI a)]) ++ List.replicate (2 - (lg_sl ([.ref h0, .int (nI a)])).length) Slot.unset).toArray = ls at hl ⊢
  have hl : lv_has ls 2 [zR 0 h0, zI 1 (nI a)] := hl
  have kf9 := hts (.fieldLink RX1 9 "PebbleInShoe$Reader" "bytes" "[I") (by decide +kernel)
  have hiX1 := (by decide +kernel : ∀ w ∈ wsX10, w ∈ wsX1_isDigit)
  refine lv_aload_n hx hb dX1_isDigit_0 rfl (lv_at hl 0 rfl) ?_
  refine va_get (D := G.1) (ci := 1) (v := .ref b0) (C := RX1) (T := TX1) (N := 7) hx hb hts hiX1 hown hK hP 0 rfl rfl 1 (by decide) kf9 (fun _ h9 => h9) rfl dX1_isDigit_1 ?_
  refine lv_iload_n hx hb dX1_isDigit_4 rfl (lv_at hl 1 rfl) ?_
  refine va_iald (D := G.1) hx hb hK hP 1 0 rfl rfl (i := (nI a)) (vp_in_nI (by omega) (by omega)) dX1_isDigit_5 ?_
  refine lv_topi (fun v_1 ev_1 => ?_)
  have ev_1 : v_1 = f a := ev_1.trans (by rw [nI_clamp (by omega)])
  subst ev_1
  refine lv_bipush (v := 48) hx hb dX1_isDigit_6 (by decide) ?_
  refine lv_icmp_lt (tgt := 26) hx hb dX1_isDigit_8 (by decide) (fun c_2 => ?_) (fun c_2 => ?_)
  · skip
    refine lv_iconst (v := 0) hx hb dX1_isDigit_26 (by decide) ?_
    have hP9 := hP.sub (ws' := [zo1 h0 t0 b0 x2 x3 x4 x5 x6, zi G b0 160 f]) [0, 1] rfl
    have hD9 := hD.sub (ws' := [zo1 h0 t0 b0 x2 x3 x4 x5 x6, zi G b0 160 f]) [0, 1] (by decide) rfl
    have hpost : (fun (r : Int32) (u : Unit) => match u with | _ => r = bz (mDig (f a))) 0 () := pp_X1_isDigit_1 f x2 x3 x4 x5 x6 a c_2
    exact W.zret (v := 0) hx hb hr (rfl) (fun t ht hW => ⟨⟨0, (), rfl, hpost, by rw [ht]; exact hP9, va_K.moved hW.alike hK, hD9⟩, hS.F ht⟩) hS.2.2 dX1_isDigit_27
  · skip
    refine lv_aload_n hx hb dX1_isDigit_11 rfl (lv_at hl 0 rfl) ?_
    refine va_get (D := G.1) (ci := 1) (v := .ref b0) (C := RX1) (T := TX1) (N := 7) hx hb hts hiX1 hown hK hP 0 rfl rfl 1 (by decide) kf9 (fun _ h9 => h9) rfl dX1_isDigit_12 ?_
    refine lv_iload_n hx hb dX1_isDigit_15 rfl (lv_at hl 1 rfl) ?_
    refine va_iald (D := G.1) hx hb hK hP 1 0 rfl rfl (i := (nI a)) (vp_in_nI (by omega) (by omega)) dX1_isDigit_16 ?_
    refine lv_topi (fun v_3 ev_3 => ?_)
    have ev_3 : v_3 = f a := ev_3.trans (by rw [nI_clamp (by omega)])
    subst ev_3
    refine lv_bipush (v := 57) hx hb dX1_isDigit_17 (by decide) ?_
    refine lv_icmp_gt (tgt := 26) hx hb dX1_isDigit_19 (by decide) (fun c_4 => ?_) (fun c_4 => ?_)
    · skip
      refine lv_iconst (v := 0) hx hb dX1_isDigit_26 (by decide) ?_
      have hP9 := hP.sub (ws' := [zo1 h0 t0 b0 x2 x3 x4 x5 x6, zi G b0 160 f]) [0, 1] rfl
      have hD9 := hD.sub (ws' := [zo1 h0 t0 b0 x2 x3 x4 x5 x6, zi G b0 160 f]) [0, 1] (by decide) rfl
      have hpost : (fun (r : Int32) (u : Unit) => match u with | _ => r = bz (mDig (f a))) 0 () := pp_X1_isDigit_2 f x2 x3 x4 x5 x6 a c_2 c_4
      exact W.zret (v := 0) hx hb hr (rfl) (fun t ht hW => ⟨⟨0, (), rfl, hpost, by rw [ht]; exact hP9, va_K.moved hW.alike hK, hD9⟩, hS.F ht⟩) hS.2.2 dX1_isDigit_27
    · skip
      refine lv_iconst (v := 1) hx hb dX1_isDigit_22 (by decide) ?_
      refine lv_goto (tgt := 27) hx hb dX1_isDigit_23 (by decide) ?_
      have hP9 := hP.sub (ws' := [zo1 h0 t0 b0 x2 x3 x4 x5 x6, zi G b0 160 f]) [0, 1] rfl
      have hD9 := hD.sub (ws' := [zo1 h0 t0 b0 x2 x3 x4 x5 x6, zi G b0 160 f]) [0, 1] (by decide) rfl
      have hpost : (fun (r : Int32) (u : Unit) => match u with | _ => r = bz (mDig (f a))) 1 () := pp_X1_isDigit_3 f x2 x3 x4 x5 x6 a c_2 c_4
      exact W.zret (v := 1) hx hb hr (rfl) (fun t ht hW => ⟨⟨1, (), rfl, hpost, by rw [ht]; exact hP9, va_K.moved hW.alike hK, hD9⟩, hS.F ht⟩) hS.2.2 dX1_isDigit_27
abbrev q_X1_isSpelled (G : gG) (E : gS) (h0 t0 b0 : Nat) (f : Nat → Int32) (x3 : Int32) (x5 : Int32) (x6 : Int32) (a : Nat) (p0 : Nat) (k : Nat) (A : Nat → Prop) : Array Value → State → Outcome → State → Prop := va_Qi (fun (r : Int32) (u : Unit) => match u with | _ => r = bz (mSp f a p0 k)) (fun (u : Unit) t => match u with | _ => va_P G.1 vwCl [zo1 h0 t0 b0 (nI a) x3 (nI p0) x5 x6, zi G b0 160 f] t.heap ∧ gK G t ∧ va_D A [zo1 h0 t0 b0 (nI a) x3 (nI p0) x5 x6, zi G b0 160 f]) A
set_option maxHeartbeats 4000000 in
set_option maxRecDepth 100000 in
theorem c_X1_isSpelled (l : Launch) (G : gG) (E : gS) (h0 t0 b0 : Nat) (f : Nat → Int32) (x3 : Int32) (x5 : Int32) (x6 : Int32) (a : Nat) (p0 : Nat) (k : Nat) (sz : Nat) (hk : k < 14) (ha : a ≤ 160) (hp : p0 ≤ a) : Met l yX1_isSpelled wsX1_isSpelled ({ frames := 4, cells := 0, slots := 0, locals := 85 }) (gPreE G E [.ref h0, .ref (E.1 k)] [zo1 h0 t0 b0 (nI a) x3 (nI p0) x5 x6, zi G b0 160 f] sz) (q_X1_isSpelled G E h0 t0 b0 f x3 x5 x6 a p0 k (va_A [zo1 h0 t0 b0 (nI a) x3 (nI p0) x5 x6, zi G b0 160 f] sz)) 0 0 (va_A [zo1 h0 t0 b0 (nI a) x3 (nI p0) x5 x6, zi G b0 160 f] sz) := by
  refine Met.ofW (cc := cX1_isSpelled) (maxL := 3) (ret := (some .boolean)) (by decide) rfl ?_
  intro p e s m args below meth c s₁ B hml hv
  obtain ⟨rfl, hsz, hP, hK, hD0, hE⟩ := hv
  have hx := B.exec
  have hb := B.bytes
  have hr := B.returns
  have hts := atoms_spec (ws := wsX1_isSpelled) B.pre
  have hown : s.vm.findClass RX1 = some m.cls := findClass_of_methodNamed B.named
  have hlocks := B.notSynchronized
  subst hsz
  have hD := hD0.self (sz := s.heap.size)
  generalize hAe : va_A [zo1 h0 t0 b0 (nI a) x3 (nI p0) x5 x6, zi G b0 160 f] s.heap.size = A at hD hE ⊢
  have hA : ∀ q : Nat, s.heap.size ≤ q → A q := fun q h => by rw [← hAe]; exact Or.inr h
  have hS : va_S A s.heap s.heap [] := va_S.rf
  have hP : va_P G.1 vwCl [zo1 h0 t0 b0 (nI a) x3 (nI p0) x5 x6, zi G b0 160 f] s.heap := hP
  have hD : va_D A [zo1 h0 t0 b0 (nI a) x3 (nI p0) x5 x6, zi G b0 160 f] := hD
  have hl := lv_entry ([.ref h0, .ref (E.1 k)]) (n := 3) (Nat.le_of_ble_eq_true rfl)
  rw [lg_entry_eq]
  generalize (lg_sl ([.ref h0, .ref (E.1 k)]) ++ List.replicate (3 - (lg_sl ([.ref h0, .ref (E.1 k)])).length) Slot.unset).toArray = ls at hl ⊢
  have hl : lv_has ls 3 [zR 0 h0, zR 1 (E.1 k)] := hl
  have kf23 := hts (.fieldLink RX1 23 "PebbleInShoe$Reader" "at" "I") (by decide +kernel)
  have hiX1 := (by decide +kernel : ∀ w ∈ wsX10, w ∈ wsX1_isSpelled)
  have kf39 := hts (.fieldLink RX1 39 "PebbleInShoe$Reader" "place" "I") (by decide +kernel)
  have kf9 := hts (.fieldLink RX1 9 "PebbleInShoe$Reader" "bytes" "[I") (by decide +kernel)
  refine lv_aload_n hx hb dX1_isSpelled_0 rfl (lv_at hl 0 rfl) ?_
  refine va_get (D := G.1) (ci := 1) (v := .int (nI a)) (C := RX1) (T := TX1) (N := 7) hx hb hts hiX1 hown hK hP 0 rfl rfl 2 (by decide) kf23 (fun _ h9 => h9) rfl dX1_isSpelled_1 ?_
  refine lv_aload_n hx hb dX1_isSpelled_4 rfl (lv_at hl 0 rfl) ?_
  refine va_get (D := G.1) (ci := 1) (v := .int (nI p0)) (C := RX1) (T := TX1) (N := 7) hx hb hts hiX1 hown hK hP 0 rfl rfl 4 (by decide) kf39 (fun _ h9 => h9) rfl dX1_isSpelled_5 ?_
  refine lv_isub hx hb dX1_isSpelled_8 ?_
  refine lv_topi (fun v_1 ev_1 => ?_)
  have ev_1 : v_1 = nI (a - p0) := ev_1.trans (pk_sub hp)
  subst ev_1
  refine lv_aload_n hx hb dX1_isSpelled_9 rfl (lv_at hl 1 rfl) ?_
  have hPc : va_P G.1 vwCl [] s.heap := hP.sub [] rfl
  have hDc : va_D A [] := hD.sub [] (by decide) rfl
  have hFc := va_free (wc := []) hD hS hA [] rfl
  refine va_calli (va_runV (As := []) (rest := [.int (nI (a - p0))]) ⟨hx, hb, hml, hown, hts⟩ (c_J0_length_8abf5 l G E k s.heap.size (hk)) (cwV 0 hts gX1_isSpelled_J0_length_8abf5 rfl rfl rfl (by decide +kernel) ⟨Nat.le_of_ble_eq_true rfl, Nat.le_of_ble_eq_true rfl⟩) ⟨gPreE_blind, vk_recv hE.1 hk hS, fun U hU hW => gPreE_of hU hW hK hPc hDc hE hS hFc⟩ rfl rfl hl.1 rfl (lv_room (Nat.le_of_ble_eq_true rfl)) dX1_isSpelled_10 ⟨Nat.le_of_ble_eq_true rfl, Nat.le_of_ble_eq_true rfl⟩) hS (fun q _ h => hFc q h) hFc (fun r_2 u t H locs ht hvm w_3 hB hz1 hk1 hS => ?_)
  obtain ⟨hP1, hK1, hD1⟩ := hB
  rw [ht] at hP1
  have hP1 : va_P G.1 vwCl [] H := hP1
  have hD1 : va_D (va_A [] s.heap.size) [] := hD1
  have w_3 : r_2 = nI (gLen.getD k 0) := w_3
  obtain ⟨hP, hD⟩ := va_join (wr := [zo1 h0 t0 b0 (nI a) x3 (nI p0) x5 x6, zi G b0 160 f]) (w1 := []) hP hD [] [0, 1] rfl rfl (by decide) (by decide) hk1 hFc hP1 hD1
  have hP : va_P G.1 vwCl [zo1 h0 t0 b0 (nI a) x3 (nI p0) x5 x6, zi G b0 160 f] H := hP
  have hD : va_D A [zo1 h0 t0 b0 (nI a) x3 (nI p0) x5 x6, zi G b0 160 f] := hD
  have w_3 : r_2 = nI (gLen.getD k 0) := w_3
  subst w_3
  refine lv_icmp_eq (tgt := 18) hx hb dX1_isSpelled_13 (by decide) (fun c_4 => ?_) (fun c_4 => ?_)
  · skip
    have hq : a - p0 = gLen.getD k 0 := (nI_eq (by omega) (by have := (gLen_ok k hk).2; omega)).mp c_4
    refine lv_iconst (v := 0) hx hb dX1_isSpelled_18 (by decide) ?_
    refine lv_istore_n (lv' := [zI 2 0, zR 0 h0, zR 1 (E.1 k)]) hx hb dX1_isSpelled_19 rfl hl (by decide) rfl (fun ls hl => ?_)
    have loop_20 : ∀ (n9 : Nat) (i : Nat), (i ≤ gLen.getD k 0) → (mSpF f p0 k (gLen.getD k 0 - i) i = mSpF f p0 k (gLen.getD k 0) 0) → (gLen.getD k 0 - i) < n9 → ∀ (H : Heap) (locs : List Loc), va_P G.1 vwCl [zo1 h0 t0 b0 (nI a) x3 (nI p0) x5 x6, zi G b0 160 f] H → va_D A [zo1 h0 t0 b0 (nI a) x3 (nI p0) x5 x6, zi G b0 160 f] → va_S A s.heap H locs → ∀ ls : Array Slot, lv_has ls 3 [zI 2 (nI i), zR 0 h0, zR 1 (E.1 k)] → W p l e (headSpec wsX1_isSpelled ({ frames := 4, cells := 0, slots := 0, locals := 85 })).room s m ([.ref h0, .ref (E.1 k)] : List Value).toArray below meth c H locs 0 0 (MQ below (q_X1_isSpelled G E h0 t0 b0 f x3 x5 x6 a p0 k A) ([.ref h0, .ref (E.1 k)] : List Value).toArray s 0 0 A) (F0 m 20 ls []) := by
      intro n9
      induction n9 with
      | zero => intro i hi hI hm9; exact absurd hm9 (Nat.not_lt_zero _)
      | succ n9 ih9 =>
        intro i hi hI hm9 H locs hP hD hS ls hl
        refine lv_iload_n hx hb dX1_isSpelled_20 rfl (lv_at hl 0 rfl) ?_
        refine lv_aload_n hx hb dX1_isSpelled_21 rfl (lv_at hl 2 rfl) ?_
        have hPc : va_P G.1 vwCl [] H := hP.sub [] rfl
        have hDc : va_D A [] := hD.sub [] (by decide) rfl
        have hFc := va_free (wc := []) hD hS hA [] rfl
        refine va_calli (va_runV (As := []) (rest := [.int (nI i)]) ⟨hx, hb, hml, hown, hts⟩ (c_J0_length_8abf5 l G E k H.size (hk)) (cwV 0 hts gX1_isSpelled_J0_length_8abf5 rfl rfl rfl (by decide +kernel) ⟨Nat.le_of_ble_eq_true rfl, Nat.le_of_ble_eq_true rfl⟩) ⟨gPreE_blind, vk_recv hE.1 hk hS, fun U hU hW => gPreE_of hU hW hK hPc hDc hE hS hFc⟩ rfl rfl hl.1 rfl (lv_room (Nat.le_of_ble_eq_true rfl)) dX1_isSpelled_22 ⟨Nat.le_of_ble_eq_true rfl, Nat.le_of_ble_eq_true rfl⟩) hS (fun q _ h => hFc q h) hFc (fun r_5 u t H locs ht hvm w_6 hB hz1 hk1 hS => ?_)
        obtain ⟨hP1, hK1, hD1⟩ := hB
        rw [ht] at hP1
        have hP1 : va_P G.1 vwCl [] H := hP1
        have hD1 : va_D (va_A [] _) [] := hD1
        have w_6 : r_5 = nI (gLen.getD k 0) := w_6
        obtain ⟨hP, hD⟩ := va_join (wr := [zo1 h0 t0 b0 (nI a) x3 (nI p0) x5 x6, zi G b0 160 f]) (w1 := []) hP hD [] [0, 1] rfl rfl (by decide) (by decide) hk1 hFc hP1 hD1
        have hP : va_P G.1 vwCl [zo1 h0 t0 b0 (nI a) x3 (nI p0) x5 x6, zi G b0 160 f] H := hP
        have hD : va_D A [zo1 h0 t0 b0 (nI a) x3 (nI p0) x5 x6, zi G b0 160 f] := hD
        have w_6 : r_5 = nI (gLen.getD k 0) := w_6
        subst w_6
        refine lv_icmp_ge (tgt := 55) hx hb dX1_isSpelled_25 (by decide) (fun c_7 => ?_) (fun c_7 => ?_)
        · skip
          have hi2 : gLen.getD k 0 ≤ i := (nI_leI (by have := (gLen_ok k hk).2; omega) (by have := (gLen_ok k hk).2; omega)).mp c_7
          refine lv_iconst (v := 1) hx hb dX1_isSpelled_55 (by decide) ?_
          have hP9 := hP.sub (ws' := [zo1 h0 t0 b0 (nI a) x3 (nI p0) x5 x6, zi G b0 160 f]) [0, 1] rfl
          have hD9 := hD.sub (ws' := [zo1 h0 t0 b0 (nI a) x3 (nI p0) x5 x6, zi G b0 160 f]) [0, 1] (by decide) rfl
          have hpost : (fun (r : Int32) (u : Unit) => match u with | _ => r = bz (mSp f a p0 k)) 1 () := by show (1 : Int32) = bz (mSp f a p0 k); rw [mSp, if_pos hq, ← hI, show gLen.getD k 0 - i = 0 by omega, mSpF]; rfl
          exact W.zret (v := 1) hx hb hr (rfl) (fun t ht hW => ⟨⟨1, (), rfl, hpost, by rw [ht]; exact hP9, va_K.moved hW.alike hK, hD9⟩, hS.F ht⟩) hS.2.2 dX1_isSpelled_56
        · skip
          have hi2 : i < gLen.getD k 0 := by
            rcases Nat.lt_or_ge i (gLen.getD k 0) with z | z
            · exact z
            · exact absurd (nI_le z (by have := (gLen_ok k hk).2; omega)) c_7
          refine lv_aload_n hx hb dX1_isSpelled_28 rfl (lv_at hl 1 rfl) ?_
          refine va_get (D := G.1) (ci := 1) (v := .ref b0) (C := RX1) (T := TX1) (N := 7) hx hb hts hiX1 hown hK hP 0 rfl rfl 1 (by decide) kf9 (fun _ h9 => h9) rfl dX1_isSpelled_29 ?_
          refine lv_aload_n hx hb dX1_isSpelled_32 rfl (lv_at hl 1 rfl) ?_
          refine va_get (D := G.1) (ci := 1) (v := .int (nI p0)) (C := RX1) (T := TX1) (N := 7) hx hb hts hiX1 hown hK hP 0 rfl rfl 4 (by decide) kf39 (fun _ h9 => h9) rfl dX1_isSpelled_33 ?_
          refine lv_iload_n hx hb dX1_isSpelled_36 rfl (lv_at hl 0 rfl) ?_
          refine lv_iadd hx hb dX1_isSpelled_37 ?_
          refine lv_topi (fun v_8 ev_8 => ?_)
          have ev_8 : v_8 = nI (p0 + i) := ev_8.trans (nI_add p0 i)
          subst ev_8
          refine va_iald (D := G.1) hx hb hK hP 1 0 rfl rfl (i := (nI (p0 + i))) (vp_in_nI (by omega) (by omega)) dX1_isSpelled_38 ?_
          refine lv_topi (fun v_9 ev_9 => ?_)
          have ev_9 : v_9 = f (p0 + i) := ev_9.trans (by rw [nI_clamp (by omega)])
          subst ev_9
          refine lv_aload_n hx hb dX1_isSpelled_39 rfl (lv_at hl 2 rfl) ?_
          refine lv_iload_n hx hb dX1_isSpelled_40 rfl (lv_at hl 0 rfl) ?_
          have hPc : va_P G.1 vwCl [] H := hP.sub [] rfl
          have hDc : va_D A [] := hD.sub [] (by decide) rfl
          have hFc := va_free (wc := []) hD hS hA [] rfl
          refine va_calli (va_runV (As := [.int (nI i)]) (rest := [.int (f (p0 + i))]) ⟨hx, hb, hml, hown, hts⟩ (c_J0_charAt_5068e l G E k i H.size (hk) (hi2)) (cwV 1 hts gX1_isSpelled_J0_charAt_5068e rfl rfl rfl (by decide +kernel) ⟨Nat.le_of_ble_eq_true rfl, Nat.le_of_ble_eq_true rfl⟩) ⟨gPreE_blind, vk_recv hE.1 hk hS, fun U hU hW => gPreE_of hU hW hK hPc hDc hE hS hFc⟩ rfl rfl hl.1 rfl (lv_room (Nat.le_of_ble_eq_true rfl)) dX1_isSpelled_41 ⟨Nat.le_of_ble_eq_true rfl, Nat.le_of_ble_eq_true rfl⟩) hS (fun q _ h => hFc q h) hFc (fun r_10 u t H locs ht hvm w_11 hB hz1 hk1 hS => ?_)
          obtain ⟨hP1, hK1, hD1⟩ := hB
          rw [ht] at hP1
          have hP1 : va_P G.1 vwCl [] H := hP1
          have hD1 : va_D (va_A [] _) [] := hD1
          have w_11 : r_10 = gCh k i := w_11
          obtain ⟨hP, hD⟩ := va_join (wr := [zo1 h0 t0 b0 (nI a) x3 (nI p0) x5 x6, zi G b0 160 f]) (w1 := []) hP hD [] [0, 1] rfl rfl (by decide) (by decide) hk1 hFc hP1 hD1
          have hP : va_P G.1 vwCl [zo1 h0 t0 b0 (nI a) x3 (nI p0) x5 x6, zi G b0 160 f] H := hP
          have hD : va_D A [zo1 h0 t0 b0 (nI a) x3 (nI p0) x5 x6, zi G b0 160 f] := hD
          have w_11 : r_10 = gCh k i := w_11
          subst w_11
          refine lv_icmp_eq (tgt := 49) hx hb dX1_isSpelled_44 (by decide) (fun c_12 => ?_) (fun c_12 => ?_)
          · skip
            have c_eq := c_12
            refine lv_iinc (v := nI (i + 1)) (lv' := [zI 2 (nI (i + 1)), zR 0 h0, zR 1 (E.1 k)]) hx hb dX1_isSpelled_49 hl (k := 0) rfl (nI_1 i) (by decide) rfl (fun ls hl => ?_)
            refine lv_goto (tgt := 20) hx hb dX1_isSpelled_52 (by decide) ?_
            exact ih9 (i + 1) (hi2) (by rw [← hI, show gLen.getD k 0 - i = (gLen.getD k 0 - (i + 1)) + 1 by omega, mSpF, if_pos c_eq]) (by omega) _ _ (hP.sub [0, 1] rfl) (hD.sub [0, 1] (by decide) rfl) hS ls (lv_sub hl [0, 1, 2] rfl)
          · skip
            have c_eq := c_12
            refine lv_iconst (v := 0) hx hb dX1_isSpelled_47 (by decide) ?_
            have hP9 := hP.sub (ws' := [zo1 h0 t0 b0 (nI a) x3 (nI p0) x5 x6, zi G b0 160 f]) [0, 1] rfl
            have hD9 := hD.sub (ws' := [zo1 h0 t0 b0 (nI a) x3 (nI p0) x5 x6, zi G b0 160 f]) [0, 1] (by decide) rfl
            have hpost : (fun (r : Int32) (u : Unit) => match u with | _ => r = bz (mSp f a p0 k)) 0 () := by show (0 : Int32) = bz (mSp f a p0 k); rw [mSp, if_pos hq, ← hI, show gLen.getD k 0 - i = (gLen.getD k 0 - (i + 1)) + 1 by omega, mSpF, if_neg c_eq]; rfl
            exact W.zret (v := 0) hx hb hr (rfl) (fun t ht hW => ⟨⟨0, (), rfl, hpost, by rw [ht]; exact hP9, va_K.moved hW.alike hK, hD9⟩, hS.F ht⟩) hS.2.2 dX1_isSpelled_48
    exact loop_20 (gLen.getD k 0 + 1) 0 (Nat.zero_le _) (by rw [Nat.sub_zero]) (by omega) _ _ (hP.sub [0, 1] rfl) (hD.sub [0, 1] (by decide) rfl) hS ls (lv_sub hl [0, 1, 2] rfl)
  · skip
    have hq : ¬ a - p0 = gLen.getD k 0 := fun z => c_4 (congrArg nI z)
    refine lv_iconst (v := 0) hx hb dX1_isSpelled_16 (by decide) ?_
    have hP9 := hP.sub (ws' := [zo1 h0 t0 b0 (nI a) x3 (nI p0) x5 x6, zi G b0 160 f]) [0, 1] rfl
    have hD9 := hD.sub (ws' := [zo1 h0 t0 b0 (nI a) x3 (nI p0) x5 x6, zi G b0 160 f]) [0, 1] (by decide) rfl
    have hpost : (fun (r : Int32) (u : Unit) => match u with | _ => r = bz (mSp f a p0 k)) 0 () := by show (0 : Int32) = bz (mSp f a p0 k); rw [mSp, if_neg hq]; rfl
    exact W.zret (v := 0) hx hb hr (rfl) (fun t ht hW => ⟨⟨0, (), rfl, hpost, by rw [ht]; exact hP9, va_K.moved hW.alike hK, hD9⟩, hS.F ht⟩) hS.2.2 dX1_isSpelled_17
abbrev q_X1_word (G : gG) (E : gS) (k : Nat) (A : Nat → Prop) : Array Value → State → Outcome → State → Prop := va_Qr (fun (u : Nat) => match u with | z => z = E.1 k) (fun (u : Nat) (ra : Nat) t => match u with | z => ra = z ∧ va_P G.1 vwCl [] t.heap ∧ gK G t ∧ va_D A []) A
set_option maxHeartbeats 4000000 in
set_option maxRecDepth 100000 in
theorem c_X1_word (l : Launch) (G : gG) (E : gS) (k : Nat) (sz : Nat) (hk : k < 12) : Met l yX1_word wsX1_word ({ frames := 0, cells := 0, slots := 0, locals := 0 }) (gPreE G E [.int (nI k)] [] sz) (q_X1_word G E k (va_A [] sz)) 0 0 (va_A [] sz) := by
  refine Met.ofW (cc := cX1_word) (maxL := 1) (ret := (some (.object "java/lang/String"))) (by decide) rfl ?_
  intro p e s m args below meth c s₁ B hml hv
  obtain ⟨rfl, hsz, hP, hK, hD0, hE⟩ := hv
  have hx := B.exec
  have hb := B.bytes
  have hr := B.returns
  have hts := atoms_spec (ws := wsX1_word) B.pre
  have hown : s.vm.findClass RX1 = some m.cls := findClass_of_methodNamed B.named
  have hlocks := B.notSynchronized
  subst hsz
  have hD := hD0.self (sz := s.heap.size)
  generalize hAe : va_A [] s.heap.size = A at hD hE ⊢
  have hA : ∀ q : Nat, s.heap.size ≤ q → A q := fun q h => by rw [← hAe]; exact Or.inr h
  have hS : va_S A s.heap s.heap [] := va_S.rf
  have hP : va_P G.1 vwCl [] s.heap := hP
  have hD : va_D A [] := hD
  have hl := lv_entry ([.int (nI k)]) (n := 1) (Nat.le_of_ble_eq_true rfl)
  rw [lg_entry_eq]
  generalize (lg_sl ([.int (nI k)]) ++ List.replicate (1 - (lg_sl ([.int (nI k)])).length) Slot.unset).toArray = ls at hl ⊢
  have hl : lv_has ls 1 [zI 0 (nI k)] := hl
  refine lv_iload_n hx hb dX1_word_0 rfl (lv_at hl 0 rfl) ?_
  rcases (show k = 0 ∨ k = 1 ∨ k = 2 ∨ k = 3 ∨ k = 4 ∨ k = 5 ∨ k = 6 ∨ k = 7 ∨ k = 8 ∨ k = 9 ∨ k = 10 ∨ k = 11 by omega) with hq | hq | hq | hq | hq | hq | hq | hq | hq | hq | hq | hq
  · skip
    refine lv_tableIn (off := 59) (tgt := 60) hx hb dX1_word_1 (by rw [hq]; decide) (by rw [hq]; decide) (by rw [hq]; decide) (by decide) ?_
    refine va_ldcS hx hb hown (hE.2.1 0 (RX1, 111, "feels") rfl) dX1_word_60 ?_
    have hP9 := hP.sub (ws' := []) [] rfl
    have hD9 := hD.sub (ws' := []) [] (by decide) rfl
    have hpost : (fun (u : Nat) => match u with | z => z = E.1 k) ((E.1 0)) := by rw [hq]
    exact W.aret (v := .ref (E.1 0)) hx hb hr (rt := (.object "java/lang/String")) (Or.inl ⟨_, rfl⟩) (Or.inr ⟨_, rfl⟩) (fun t ht hW => ⟨⟨((E.1 0)), (E.1 0), rfl, hpost, rfl, by rw [ht]; exact hP9, va_K.moved hW.alike hK, hD9⟩, hS.F ht⟩) hS.2.2 dX1_word_62
  · skip
    refine lv_tableIn (off := 62) (tgt := 63) hx hb dX1_word_1 (by rw [hq]; decide) (by rw [hq]; decide) (by rw [hq]; decide) (by decide) ?_
    refine va_ldcS hx hb hown (hE.2.1 1 (RX1, 113, "wears") rfl) dX1_word_63 ?_
    have hP9 := hP.sub (ws' := []) [] rfl
    have hD9 := hD.sub (ws' := []) [] (by decide) rfl
    have hpost : (fun (u : Nat) => match u with | z => z = E.1 k) ((E.1 1)) := by rw [hq]
    exact W.aret (v := .ref (E.1 1)) hx hb hr (rt := (.object "java/lang/String")) (Or.inl ⟨_, rfl⟩) (Or.inr ⟨_, rfl⟩) (fun t ht hW => ⟨⟨((E.1 1)), (E.1 1), rfl, hpost, rfl, by rw [ht]; exact hP9, va_K.moved hW.alike hK, hD9⟩, hS.F ht⟩) hS.2.2 dX1_word_65
  · skip
    refine lv_tableIn (off := 65) (tgt := 66) hx hb dX1_word_1 (by rw [hq]; decide) (by rw [hq]; decide) (by rw [hq]; decide) (by decide) ?_
    refine va_ldcS hx hb hown (hE.2.1 2 (RX1, 115, "bars") rfl) dX1_word_66 ?_
    have hP9 := hP.sub (ws' := []) [] rfl
    have hD9 := hD.sub (ws' := []) [] (by decide) rfl
    have hpost : (fun (u : Nat) => match u with | z => z = E.1 k) ((E.1 2)) := by rw [hq]
    exact W.aret (v := .ref (E.1 2)) hx hb hr (rt := (.object "java/lang/String")) (Or.inl ⟨_, rfl⟩) (Or.inr ⟨_, rfl⟩) (fun t ht hW => ⟨⟨((E.1 2)), (E.1 2), rfl, hpost, rfl, by rw [ht]; exact hP9, va_K.moved hW.alike hK, hD9⟩, hS.F ht⟩) hS.2.2 dX1_word_68
  · skip
    refine lv_tableIn (off := 68) (tgt := 69) hx hb dX1_word_1 (by rw [hq]; decide) (by rw [hq]; decide) (by rw [hq]; decide) (by decide) ?_
    refine va_ldcS hx hb hown (hE.2.1 3 (RX1, 117, "or") rfl) dX1_word_69 ?_
    have hP9 := hP.sub (ws' := []) [] rfl
    have hD9 := hD.sub (ws' := []) [] (by decide) rfl
    have hpost : (fun (u : Nat) => match u with | z => z = E.1 k) ((E.1 3)) := by rw [hq]
    exact W.aret (v := .ref (E.1 3)) hx hb hr (rt := (.object "java/lang/String")) (Or.inl ⟨_, rfl⟩) (Or.inr ⟨_, rfl⟩) (fun t ht hW => ⟨⟨((E.1 3)), (E.1 3), rfl, hpost, rfl, by rw [ht]; exact hP9, va_K.moved hW.alike hK, hD9⟩, hS.F ht⟩) hS.2.2 dX1_word_71
  · skip
    refine lv_tableIn (off := 71) (tgt := 72) hx hb dX1_word_1 (by rw [hq]; decide) (by rw [hq]; decide) (by rw [hq]; decide) (by decide) ?_
    refine va_ldcS hx hb hown (hE.2.1 4 (RX1, 119, "and") rfl) dX1_word_72 ?_
    have hP9 := hP.sub (ws' := []) [] rfl
    have hD9 := hD.sub (ws' := []) [] (by decide) rfl
    have hpost : (fun (u : Nat) => match u with | z => z = E.1 k) ((E.1 4)) := by rw [hq]
    exact W.aret (v := .ref (E.1 4)) hx hb hr (rt := (.object "java/lang/String")) (Or.inl ⟨_, rfl⟩) (Or.inr ⟨_, rfl⟩) (fun t ht hW => ⟨⟨((E.1 4)), (E.1 4), rfl, hpost, rfl, by rw [ht]; exact hP9, va_K.moved hW.alike hK, hD9⟩, hS.F ht⟩) hS.2.2 dX1_word_74
  · skip
    refine lv_tableIn (off := 74) (tgt := 75) hx hb dX1_word_1 (by rw [hq]; decide) (by rw [hq]; decide) (by rw [hq]; decide) (by decide) ?_
    refine va_ldcS hx hb hown (hE.2.1 5 (RX1, 121, "not") rfl) dX1_word_75 ?_
    have hP9 := hP.sub (ws' := []) [] rfl
    have hD9 := hD.sub (ws' := []) [] (by decide) rfl
    have hpost : (fun (u : Nat) => match u with | z => z = E.1 k) ((E.1 5)) := by rw [hq]
    exact W.aret (v := .ref (E.1 5)) hx hb hr (rt := (.object "java/lang/String")) (Or.inl ⟨_, rfl⟩) (Or.inr ⟨_, rfl⟩) (fun t ht hW => ⟨⟨((E.1 5)), (E.1 5), rfl, hpost, rfl, by rw [ht]; exact hP9, va_K.moved hW.alike hK, hD9⟩, hS.F ht⟩) hS.2.2 dX1_word_77
  · skip
    refine lv_tableIn (off := 77) (tgt := 78) hx hb dX1_word_1 (by rw [hq]; decide) (by rw [hq]; decide) (by rw [hq]; decide) (by decide) ?_
    refine va_ldcS hx hb hown (hE.2.1 6 (RX1, 123, "size") rfl) dX1_word_78 ?_
    have hP9 := hP.sub (ws' := []) [] rfl
    have hD9 := hD.sub (ws' := []) [] (by decide) rfl
    have hpost : (fun (u : Nat) => match u with | z => z = E.1 k) ((E.1 6)) := by rw [hq]
    exact W.aret (v := .ref (E.1 6)) hx hb hr (rt := (.object "java/lang/String")) (Or.inl ⟨_, rfl⟩) (Or.inr ⟨_, rfl⟩) (fun t ht hW => ⟨⟨((E.1 6)), (E.1 6), rfl, hpost, rfl, by rw [ht]; exact hP9, va_K.moved hW.alike hK, hD9⟩, hS.F ht⟩) hS.2.2 dX1_word_80
  · skip
    refine lv_tableIn (off := 80) (tgt := 81) hx hb dX1_word_1 (by rw [hq]; decide) (by rw [hq]; decide) (by rw [hq]; decide) (by decide) ?_
    refine va_ldcS hx hb hown (hE.2.1 7 (RX1, 125, "round") rfl) dX1_word_81 ?_
    have hP9 := hP.sub (ws' := []) [] rfl
    have hD9 := hD.sub (ws' := []) [] (by decide) rfl
    have hpost : (fun (u : Nat) => match u with | z => z = E.1 k) ((E.1 7)) := by rw [hq]
    exact W.aret (v := .ref (E.1 7)) hx hb hr (rt := (.object "java/lang/String")) (Or.inl ⟨_, rfl⟩) (Or.inr ⟨_, rfl⟩) (fun t ht hW => ⟨⟨((E.1 7)), (E.1 7), rfl, hpost, rfl, by rw [ht]; exact hP9, va_K.moved hW.alike hK, hD9⟩, hS.F ht⟩) hS.2.2 dX1_word_83
  · skip
    refine lv_tableIn (off := 83) (tgt := 84) hx hb dX1_word_1 (by rw [hq]; decide) (by rw [hq]; decide) (by rw [hq]; decide) (by decide) ?_
    refine va_ldcS hx hb hown (hE.2.1 8 (RX1, 127, "soles") rfl) dX1_word_84 ?_
    have hP9 := hP.sub (ws' := []) [] rfl
    have hD9 := hD.sub (ws' := []) [] (by decide) rfl
    have hpost : (fun (u : Nat) => match u with | z => z = E.1 k) ((E.1 8)) := by rw [hq]
    exact W.aret (v := .ref (E.1 8)) hx hb hr (rt := (.object "java/lang/String")) (Or.inl ⟨_, rfl⟩) (Or.inr ⟨_, rfl⟩) (fun t ht hW => ⟨⟨((E.1 8)), (E.1 8), rfl, hpost, rfl, by rw [ht]; exact hP9, va_K.moved hW.alike hK, hD9⟩, hS.F ht⟩) hS.2.2 dX1_word_86
  · skip
    refine lv_tableIn (off := 86) (tgt := 87) hx hb dX1_word_1 (by rw [hq]; decide) (by rw [hq]; decide) (by rw [hq]; decide) (by decide) ?_
    refine va_ldcS hx hb hown (hE.2.1 9 (RX1, 129, "miles") rfl) dX1_word_87 ?_
    have hP9 := hP.sub (ws' := []) [] rfl
    have hD9 := hD.sub (ws' := []) [] (by decide) rfl
    have hpost : (fun (u : Nat) => match u with | z => z = E.1 k) ((E.1 9)) := by rw [hq]
    exact W.aret (v := .ref (E.1 9)) hx hb hr (rt := (.object "java/lang/String")) (Or.inl ⟨_, rfl⟩) (Or.inr ⟨_, rfl⟩) (fun t ht hW => ⟨⟨((E.1 9)), (E.1 9), rfl, hpost, rfl, by rw [ht]; exact hP9, va_K.moved hW.alike hK, hD9⟩, hS.F ht⟩) hS.2.2 dX1_word_89
  · skip
    refine lv_tableIn (off := 89) (tgt := 90) hx hb dX1_word_1 (by rw [hq]; decide) (by rw [hq]; decide) (by rw [hq]; decide) (by decide) ?_
    refine va_ldcS hx hb hown (hE.2.1 10 (RX1, 131, "more") rfl) dX1_word_90 ?_
    have hP9 := hP.sub (ws' := []) [] rfl
    have hD9 := hD.sub (ws' := []) [] (by decide) rfl
    have hpost : (fun (u : Nat) => match u with | z => z = E.1 k) ((E.1 10)) := by rw [hq]
    exact W.aret (v := .ref (E.1 10)) hx hb hr (rt := (.object "java/lang/String")) (Or.inl ⟨_, rfl⟩) (Or.inr ⟨_, rfl⟩) (fun t ht hW => ⟨⟨((E.1 10)), (E.1 10), rfl, hpost, rfl, by rw [ht]; exact hP9, va_K.moved hW.alike hK, hD9⟩, hS.F ht⟩) hS.2.2 dX1_word_92
  · skip
    refine lv_tableOut (tgt := 93) hx hb dX1_word_1 (by rw [hq]; decide) (by decide) ?_
    refine va_ldcS hx hb hown (hE.2.1 11 (RX1, 133, "judge") rfl) dX1_word_93 ?_
    have hP9 := hP.sub (ws' := []) [] rfl
    have hD9 := hD.sub (ws' := []) [] (by decide) rfl
    have hpost : (fun (u : Nat) => match u with | z => z = E.1 k) ((E.1 11)) := by rw [hq]
    exact W.aret (v := .ref (E.1 11)) hx hb hr (rt := (.object "java/lang/String")) (Or.inl ⟨_, rfl⟩) (Or.inr ⟨_, rfl⟩) (fun t ht hW => ⟨⟨((E.1 11)), (E.1 11), rfl, hpost, rfl, by rw [ht]; exact hP9, va_K.moved hW.alike hK, hD9⟩, hS.F ht⟩) hS.2.2 dX1_word_95
abbrev q_X1_nextWord (G : gG) (E : gS) (h0 t0 b0 : Nat) (f : Nat → Int32) (x3 : Int32) (x5 : Int32) (n : Nat) (a : Nat) (p0 : Nat) (A : Nat → Prop) : Array Value → State → Outcome → State → Prop := va_Qv (fun (u : Nat × Int32 × Int32) => match u with | (zb, zt, zm) => zb = mRun mLet f n (n - a) a ∧ zt = (mWords f zb p0 12 0 (1, x5)).1 ∧ zm = (mWords f zb p0 12 0 (1, x5)).2) (fun (u : Nat × Int32 × Int32) t => match u with | (zb, zt, zm) => va_P G.1 vwCl [zo1 h0 t0 b0 (nI zb) zt (nI p0) zm (nI n), zi G b0 160 f] t.heap ∧ gK G t ∧ va_D A [zo1 h0 t0 b0 (nI zb) zt (nI p0) zm (nI n), zi G b0 160 f]) A
set_option maxHeartbeats 4000000 in
set_option maxRecDepth 100000 in
theorem c_X1_nextWord (l : Launch) (G : gG) (E : gS) (h0 t0 b0 : Nat) (f : Nat → Int32) (x3 : Int32) (x5 : Int32) (n : Nat) (a : Nat) (p0 : Nat) (sz : Nat) (hn : n ≤ 160) (ha : a ≤ n) (hp : p0 ≤ a) : Met l yX1_nextWord wsX1_nextWord ({ frames := 5, cells := 0, slots := 0, locals := 107 }) (gPreE G E [.ref h0] [zo1 h0 t0 b0 (nI a) x3 (nI p0) x5 (nI n), zi G b0 160 f] sz) (q_X1_nextWord G E h0 t0 b0 f x3 x5 n a p0 (va_A [zo1 h0 t0 b0 (nI a) x3 (nI p0) x5 (nI n), zi G b0 160 f] sz)) 0 0 (va_A [zo1 h0 t0 b0 (nI a) x3 (nI p0) x5 (nI n), zi G b0 160 f] sz) := by
  refine Met.ofW (cc := cX1_nextWord) (maxL := 2) (ret := none) (by decide) rfl ?_
  intro p e s m args below meth c s₁ B hml hv
  obtain ⟨rfl, hsz, hP, hK, hD0, hE⟩ := hv
  have hx := B.exec
  have hb := B.bytes
  have hr := B.returns
  have hts := atoms_spec (ws := wsX1_nextWord) B.pre
  have hown : s.vm.findClass RX1 = some m.cls := findClass_of_methodNamed B.named
  have hlocks := B.notSynchronized
  subst hsz
  have hD := hD0.self (sz := s.heap.size)
  generalize hAe : va_A [zo1 h0 t0 b0 (nI a) x3 (nI p0) x5 (nI n), zi G b0 160 f] s.heap.size = A at hD hE ⊢
  have hA : ∀ q : Nat, s.heap.size ≤ q → A q := fun q h => by rw [← hAe]; exact Or.inr h
  have hS : va_S A s.heap s.heap [] := va_S.rf
  have hP : va_P G.1 vwCl [zo1 h0 t0 b0 (nI a) x3 (nI p0) x5 (nI n), zi G b0 160 f] s.heap := hP
  have hD : va_D A [zo1 h0 t0 b0 (nI a) x3 (nI p0) x5 (nI n), zi G b0 160 f] := hD
  have hl := lv_entry ([.ref h0]) (n := 2) (Nat.le_of_ble_eq_true rfl)
  rw [lg_entry_eq]
  generalize (lg_sl ([.ref h0]) ++ List.replicate (2 - (lg_sl ([.ref h0])).length) Slot.unset).toArray = ls at hl ⊢
  have hl : lv_has ls 2 [zR 0 h0] := hl
  have kf23 := hts (.fieldLink RX1 23 "PebbleInShoe$Reader" "at" "I") (by decide +kernel)
  have hiX1 := (by decide +kernel : ∀ w ∈ wsX10, w ∈ wsX1_nextWord)
  have kf19 := hts (.fieldLink RX1 19 "PebbleInShoe$Reader" "length" "I") (by decide +kernel)
  have kf45 := hts (.fieldLink RX1 45 "PebbleInShoe$Reader" "token" "I") (by decide +kernel)
  have kf74 := hts (.fieldLink RX1 74 "PebbleInShoe$Reader" "meaning" "I") (by decide +kernel)
  have loop_0 : ∀ (n9 : Nat) (a1 : Nat), (a ≤ a1 ∧ a1 ≤ n) → (mRun mLet f n (n - a1) a1 = mRun mLet f n (n - a) a) → (n - a1) < n9 → ∀ (H : Heap) (locs : List Loc), va_P G.1 vwCl [zo1 h0 t0 b0 (nI a1) x3 (nI p0) x5 (nI n), zi G b0 160 f] H → va_D A [zo1 h0 t0 b0 (nI a1) x3 (nI p0) x5 (nI n), zi G b0 160 f] → va_S A s.heap H locs → ∀ ls : Array Slot, lv_has ls 2 [zR 0 h0] → W p l e (headSpec wsX1_nextWord ({ frames := 5, cells := 0, slots := 0, locals := 107 })).room s m ([.ref h0] : List Value).toArray below meth c H locs 0 0 (MQ below (q_X1_nextWord G E h0 t0 b0 f x3 x5 n a p0 A) ([.ref h0] : List Value).toArray s 0 0 A) (F0 m 0 ls []) := by
    intro n9
    induction n9 with
    | zero => intro a1 ha1 hR hm9; exact absurd hm9 (Nat.not_lt_zero _)
    | succ n9 ih9 =>
      intro a1 ha1 hR hm9 H locs hP hD hS ls hl
      refine lv_aload_n hx hb dX1_nextWord_0 rfl (lv_at hl 0 rfl) ?_
      refine va_get (D := G.1) (ci := 1) (v := .int (nI a1)) (C := RX1) (T := TX1) (N := 7) hx hb hts hiX1 hown hK hP 0 rfl rfl 2 (by decide) kf23 (fun _ h9 => h9) rfl dX1_nextWord_1 ?_
      refine lv_aload_n hx hb dX1_nextWord_4 rfl (lv_at hl 0 rfl) ?_
      refine va_get (D := G.1) (ci := 1) (v := .int (nI n)) (C := RX1) (T := TX1) (N := 7) hx hb hts hiX1 hown hK hP 0 rfl rfl 6 (by decide) kf19 (fun _ h9 => h9) rfl dX1_nextWord_5 ?_
      refine lv_icmp_ge (tgt := 35) hx hb dX1_nextWord_8 (by decide) (fun c_1 => ?_) (fun c_1 => ?_)
      · skip
        have hge : n ≤ a1 := (nI_leI (by omega) (by omega)).mp c_1
        refine lv_aload_n hx hb dX1_nextWord_35 rfl (lv_at hl 0 rfl) ?_
        refine lv_iconst (v := 1) hx hb dX1_nextWord_36 (by decide) ?_
        refine va_put (D := G.1) (ci := 1) (v := .int 1) (ty := .int) (C := RX1) (T := TX1) (N := 7) hx hb hts hiX1 tyX1 tyX1_ok nmX1 hown hK hP hD hS 0 rfl rfl 3 (by decide) kf45 (fun _ h9 => h9) rfl (by decide +kernel) rfl rfl (Nat.le_of_ble_eq_true rfl) dX1_nextWord_37 (fun H locs hP hD hS => ?_)
        have hP : va_P G.1 vwCl [zo1 h0 t0 b0 (nI a1) 1 (nI p0) x5 (nI n), zi G b0 160 f] H := hP
        have hD : va_D A [zo1 h0 t0 b0 (nI a1) 1 (nI p0) x5 (nI n), zi G b0 160 f] := hD
        refine lv_iconst (v := 0) hx hb dX1_nextWord_40 (by decide) ?_
        refine lv_istore_n (lv' := [zI 1 0, zR 0 h0]) hx hb dX1_nextWord_41 rfl hl (by decide) rfl (fun ls hl => ?_)
        have hB : a1 = mRun mLet f n (n - a) a := by rw [← hR]; exact (mRun_stop _ (by first | exact Or.inl (by omega) | exact Or.inr hst)).symm
        have loop_42 : ∀ (n9 : Nat) (k : Nat) (y3 : Int32) (y5 : Int32), (k ≤ 12) → (mWords f a1 p0 (12 - k) k (y3, y5) = mWords f a1 p0 12 0 (1, x5)) → (12 - k) < n9 → ∀ (H : Heap) (locs : List Loc), va_P G.1 vwCl [zo1 h0 t0 b0 (nI a1) y3 (nI p0) y5 (nI n), zi G b0 160 f] H → va_D A [zo1 h0 t0 b0 (nI a1) y3 (nI p0) y5 (nI n), zi G b0 160 f] → va_S A s.heap H locs → ∀ ls : Array Slot, lv_has ls 2 [zI 1 (nI k), zR 0 h0] → W p l e (headSpec wsX1_nextWord ({ frames := 5, cells := 0, slots := 0, locals := 107 })).room s m ([.ref h0] : List Value).toArray below meth c H locs 0 0 (MQ below (q_X1_nextWord G E h0 t0 b0 f x3 x5 n a p0 A) ([.ref h0] : List Value).toArray s 0 0 A) (F0 m 42 ls []) := by
          intro n9
          induction n9 with
          | zero => intro k y3 y5 hk hW hm9; exact absurd hm9 (Nat.not_lt_zero _)
          | succ n9 ih9 =>
            intro k y3 y5 hk hW hm9 H locs hP hD hS ls hl
            refine lv_iload_n hx hb dX1_nextWord_42 rfl (lv_at hl 0 rfl) ?_
            refine lv_bipush (v := 12) hx hb dX1_nextWord_43 (by decide) ?_
            refine lv_icmp_ge (tgt := 91) hx hb dX1_nextWord_45 (by decide) (fun c_2 => ?_) (fun c_2 => ?_)
            · skip
              have hk2 : 12 ≤ k := (nI_leI (a := 12) (by omega) (by omega)).mp c_2
              have hP9 := hP.sub (ws' := [zo1 h0 t0 b0 (nI a1) y3 (nI p0) y5 (nI n), zi G b0 160 f]) [0, 1] rfl
              have hD9 := hD.sub (ws' := [zo1 h0 t0 b0 (nI a1) y3 (nI p0) y5 (nI n), zi G b0 160 f]) [0, 1] (by decide) rfl
              have hpost : (fun (u : Nat × Int32 × Int32) => match u with | (zb, zt, zm) => zb = mRun mLet f n (n - a) a ∧ zt = (mWords f zb p0 12 0 (1, x5)).1 ∧ zm = (mWords f zb p0 12 0 (1, x5)).2) (a1, y3, y5) := by
                have hz : 12 - k = 0 := by omega
                rw [hz, mWords] at hW
                exact ⟨hB, by rw [← hW], by rw [← hW]⟩
              exact W.vret hx hb hr (fun t ht hW => ⟨⟨(a1, y3, y5), rfl, hpost, by rw [ht]; exact hP9, va_K.moved hW.alike hK, hD9⟩, hS.F ht⟩) hS.2.2 dX1_nextWord_91
            · skip
              have hk2 : k < 12 := by
                rcases Nat.lt_or_ge k 12 with z | z
                · exact z
                · exact absurd (nI_le (a := 12) z (by omega)) c_2
              refine lv_aload_n hx hb dX1_nextWord_48 rfl (lv_at hl 1 rfl) ?_
              refine lv_iload_n hx hb dX1_nextWord_49 rfl (lv_at hl 0 rfl) ?_
              have hPc : va_P G.1 vwCl [] H := hP.sub [] rfl
              have hDc : va_D A [] := hD.sub [] (by decide) rfl
              have hFc := va_free (wc := []) hD hS hA [] rfl
              refine va_callr (va_runS (As := [.int (nI k)]) (rest := [.ref h0]) ⟨hx, hb, hml, hown, hts⟩ (c_X1_word l G E k H.size (hk2)) (va_cwS 1 hts gX1_nextWord_X1_word rfl rfl rfl (by decide +kernel) ⟨Nat.le_of_ble_eq_true rfl, Nat.le_of_ble_eq_true rfl⟩) ⟨gPreE_blind, fun U hU hW => gPreE_of hU hW hK hPc hDc hE hS hFc⟩ rfl rfl hl.1 rfl (lv_room (Nat.le_of_ble_eq_true rfl)) dX1_nextWord_50 ⟨Nat.le_of_ble_eq_true rfl, Nat.le_of_ble_eq_true rfl⟩) hS (fun q _ h => hFc q h) hFc (fun u r_3 t H locs ht hvm w_4 hB hz1 hk1 hS => ?_)
              obtain ⟨z_5, rfl⟩ : ∃ z, z = u := ⟨_, rfl⟩
              obtain ⟨hra, hB⟩ := hB
              subst hra
              obtain ⟨hP1, hK1, hD1⟩ := hB
              rw [ht] at hP1
              have hP1 : va_P G.1 vwCl [] H := hP1
              have hD1 : va_D (va_A [] _) [] := hD1
              have w_4 : r_3 = E.1 k := w_4
              obtain ⟨hP, hD⟩ := va_join (wr := [zo1 h0 t0 b0 (nI a1) y3 (nI p0) y5 (nI n), zi G b0 160 f]) (w1 := []) hP hD [] [0, 1] rfl rfl (by decide) (by decide) hk1 hFc hP1 hD1
              have hP : va_P G.1 vwCl [zo1 h0 t0 b0 (nI a1) y3 (nI p0) y5 (nI n), zi G b0 160 f] H := hP
              have hD : va_D A [zo1 h0 t0 b0 (nI a1) y3 (nI p0) y5 (nI n), zi G b0 160 f] := hD
              have w_4 : r_3 = E.1 k := w_4
              subst w_4
              have hPc : va_P G.1 vwCl [zo1 h0 t0 b0 (nI a1) y3 (nI p0) y5 (nI n), zi G b0 160 f] H := hP.sub [0, 1] rfl
              have hDc : va_D A [zo1 h0 t0 b0 (nI a1) y3 (nI p0) y5 (nI n), zi G b0 160 f] := hD.sub [0, 1] (by decide) rfl
              have hFc := va_free (wc := [zo1 h0 t0 b0 (nI a1) y3 (nI p0) y5 (nI n), zi G b0 160 f]) hD hS hA [0, 1] rfl
              refine va_calli (va_runV (As := [.ref (E.1 k)]) (rest := []) ⟨hx, hb, hml, hown, hts⟩ (c_X1_isSpelled l G E h0 t0 b0 f y3 y5 (nI n) a1 p0 k H.size ((by omega)) ((by omega)) ((by omega))) (cwV 1 hts gX1_nextWord_X1_isSpelled rfl rfl rfl (by decide +kernel) ⟨Nat.le_of_ble_eq_true rfl, Nat.le_of_ble_eq_true rfl⟩) ⟨gPreE_blind, va_recv hK hPc (ci := 1) (q0 := 0) rfl rfl, fun U hU hW => gPreE_of hU hW hK hPc hDc hE hS hFc⟩ rfl rfl hl.1 rfl (lv_room (Nat.le_of_ble_eq_true rfl)) dX1_nextWord_53 ⟨Nat.le_of_ble_eq_true rfl, Nat.le_of_ble_eq_true rfl⟩) hS (fun q _ h => hFc q h) hFc (fun r_6 u t H locs ht hvm w_7 hB hz1 hk1 hS => ?_)
              obtain ⟨hP1, hK1, hD1⟩ := hB
              rw [ht] at hP1
              have hP1 : va_P G.1 vwCl [zo1 h0 t0 b0 (nI a1) y3 (nI p0) y5 (nI n), zi G b0 160 f] H := hP1
              have hD1 : va_D (va_A [zo1 h0 t0 b0 (nI a1) y3 (nI p0) y5 (nI n), zi G b0 160 f] _) [zo1 h0 t0 b0 (nI a1) y3 (nI p0) y5 (nI n), zi G b0 160 f] := hD1
              have w_7 : r_6 = bz (mSp f a1 p0 k) := w_7
              obtain ⟨hP, hD⟩ := va_join (wr := []) (w1 := [zo1 h0 t0 b0 (nI a1) y3 (nI p0) y5 (nI n), zi G b0 160 f]) hP hD [0, 1] [] rfl rfl (by decide) (by decide) hk1 hFc hP1 hD1
              have hP : va_P G.1 vwCl [zo1 h0 t0 b0 (nI a1) y3 (nI p0) y5 (nI n), zi G b0 160 f] H := hP
              have hD : va_D A [zo1 h0 t0 b0 (nI a1) y3 (nI p0) y5 (nI n), zi G b0 160 f] := hD
              have hsp := w_7
              refine lv_if_eq (tgt := 85) hx hb dX1_nextWord_56 (by decide) (fun c_8 => ?_) (fun c_8 => ?_)
              · skip
                have n_10 : (mSp f a1 p0 k) = false := bz_eq w_7 c_8
                have hno : mSp f a1 p0 k = false := by
                  cases hq : mSp f a1 p0 k with
                  | false => rfl
                  | true => rw [hq] at hsp; rw [hsp] at c_8; exact absurd c_8 (by decide)
                refine lv_iinc (v := nI (k + 1)) (lv' := [zI 1 (nI (k + 1)), zR 0 h0]) hx hb dX1_nextWord_85 hl (k := 0) rfl (nI_1 k) (by decide) rfl (fun ls hl => ?_)
                refine lv_goto (tgt := 42) hx hb dX1_nextWord_88 (by decide) ?_
                exact ih9 (k + 1) y3 y5 (by omega) (by rw [← hW, show 12 - k = (12 - (k + 1)) + 1 by omega, mWords]; rw [if_neg (by rw [hno]; decide)]) (by omega) _ _ (hP.sub [0, 1] rfl) (hD.sub [0, 1] (by decide) rfl) hS ls (lv_sub hl [0, 1] rfl)
              · skip
                have p_9 : (mSp f a1 p0 k) = true := bz_ne w_7 c_8
                have hye : mSp f a1 p0 k = true := by
                  cases hq : mSp f a1 p0 k with
                  | true => rfl
                  | false => rw [hq] at hsp; rw [hsp] at c_8; exact absurd rfl c_8
                refine lv_aload_n hx hb dX1_nextWord_59 rfl (lv_at hl 1 rfl) ?_
                refine lv_iload_n hx hb dX1_nextWord_60 rfl (lv_at hl 0 rfl) ?_
                refine lv_bipush (v := 6) hx hb dX1_nextWord_61 (by decide) ?_
                refine lv_icmp_ge (tgt := 73) hx hb dX1_nextWord_63 (by decide) (fun c_11 => ?_) (fun c_11 => ?_)
                · skip
                  have hk6 : ¬ k < 6 := by have := (nI_leI (a := 6) (by omega) (by omega)).mp c_11; omega
                  refine lv_iconst (v := 3) hx hb dX1_nextWord_73 (by decide) ?_
                  refine va_put (D := G.1) (ci := 1) (v := .int 3) (ty := .int) (C := RX1) (T := TX1) (N := 7) hx hb hts hiX1 tyX1 tyX1_ok nmX1 hown hK hP hD hS 0 rfl rfl 3 (by decide) kf45 (fun _ h9 => h9) rfl (by decide +kernel) rfl rfl (Nat.le_of_ble_eq_true rfl) dX1_nextWord_74 (fun H locs hP hD hS => ?_)
                  have hP : va_P G.1 vwCl [zo1 h0 t0 b0 (nI a1) 3 (nI p0) y5 (nI n), zi G b0 160 f] H := hP
                  have hD : va_D A [zo1 h0 t0 b0 (nI a1) 3 (nI p0) y5 (nI n), zi G b0 160 f] := hD
                  refine lv_aload_n hx hb dX1_nextWord_77 rfl (lv_at hl 1 rfl) ?_
                  refine lv_iload_n hx hb dX1_nextWord_78 rfl (lv_at hl 0 rfl) ?_
                  refine lv_bipush (v := 6) hx hb dX1_nextWord_79 (by decide) ?_
                  refine lv_isub hx hb dX1_nextWord_81 ?_
                  refine va_put (D := G.1) (ci := 1) (v := .int ((nI k) - 6)) (ty := .int) (C := RX1) (T := TX1) (N := 7) hx hb hts hiX1 tyX1 tyX1_ok nmX1 hown hK hP hD hS 0 rfl rfl 5 (by decide) kf74 (fun _ h9 => h9) rfl (by decide +kernel) rfl rfl (Nat.le_of_ble_eq_true rfl) dX1_nextWord_82 (fun H locs hP hD hS => ?_)
                  have hP : va_P G.1 vwCl [zo1 h0 t0 b0 (nI a1) 3 (nI p0) ((nI k) - 6) (nI n), zi G b0 160 f] H := hP
                  have hD : va_D A [zo1 h0 t0 b0 (nI a1) 3 (nI p0) ((nI k) - 6) (nI n), zi G b0 160 f] := hD
                  refine lv_iinc (v := nI (k + 1)) (lv' := [zI 1 (nI (k + 1)), zR 0 h0]) hx hb dX1_nextWord_85 hl (k := 0) rfl (nI_1 k) (by decide) rfl (fun ls hl => ?_)
                  refine lv_goto (tgt := 42) hx hb dX1_nextWord_88 (by decide) ?_
                  exact ih9 (k + 1) 3 ((nI k) - 6) (by omega) (by rw [← hW, show 12 - k = (12 - (k + 1)) + 1 by omega, mWords]; rw [if_pos hye, if_neg hk6]) (by omega) _ _ (hP.sub [0, 1] rfl) (hD.sub [0, 1] (by decide) rfl) hS ls (lv_sub hl [0, 1] rfl)
                · skip
                  have hk6 : k < 6 := by
                    rcases Nat.lt_or_ge k 6 with z | z
                    · exact z
                    · exact absurd (nI_le (a := 6) z (by omega)) c_11
                  refine lv_bipush (v := 100) hx hb dX1_nextWord_66 (by decide) ?_
                  refine lv_iload_n hx hb dX1_nextWord_68 rfl (lv_at hl 0 rfl) ?_
                  refine lv_iadd hx hb dX1_nextWord_69 ?_
                  refine lv_topi (fun v_12 ev_12 => ?_)
                  have ev_12 : v_12 = nI (100 + k) := ev_12.trans (nI_add 100 k)
                  subst ev_12
                  refine lv_goto (tgt := 74) hx hb dX1_nextWord_70 (by decide) ?_
                  refine va_put (D := G.1) (ci := 1) (v := .int (nI (100 + k))) (ty := .int) (C := RX1) (T := TX1) (N := 7) hx hb hts hiX1 tyX1 tyX1_ok nmX1 hown hK hP hD hS 0 rfl rfl 3 (by decide) kf45 (fun _ h9 => h9) rfl (by decide +kernel) rfl rfl (Nat.le_of_ble_eq_true rfl) dX1_nextWord_74 (fun H locs hP hD hS => ?_)
                  have hP : va_P G.1 vwCl [zo1 h0 t0 b0 (nI a1) (nI (100 + k)) (nI p0) y5 (nI n), zi G b0 160 f] H := hP
                  have hD : va_D A [zo1 h0 t0 b0 (nI a1) (nI (100 + k)) (nI p0) y5 (nI n), zi G b0 160 f] := hD
                  refine lv_aload_n hx hb dX1_nextWord_77 rfl (lv_at hl 1 rfl) ?_
                  refine lv_iload_n hx hb dX1_nextWord_78 rfl (lv_at hl 0 rfl) ?_
                  refine lv_bipush (v := 6) hx hb dX1_nextWord_79 (by decide) ?_
                  refine lv_isub hx hb dX1_nextWord_81 ?_
                  refine va_put (D := G.1) (ci := 1) (v := .int ((nI k) - 6)) (ty := .int) (C := RX1) (T := TX1) (N := 7) hx hb hts hiX1 tyX1 tyX1_ok nmX1 hown hK hP hD hS 0 rfl rfl 5 (by decide) kf74 (fun _ h9 => h9) rfl (by decide +kernel) rfl rfl (Nat.le_of_ble_eq_true rfl) dX1_nextWord_82 (fun H locs hP hD hS => ?_)
                  have hP : va_P G.1 vwCl [zo1 h0 t0 b0 (nI a1) (nI (100 + k)) (nI p0) ((nI k) - 6) (nI n), zi G b0 160 f] H := hP
                  have hD : va_D A [zo1 h0 t0 b0 (nI a1) (nI (100 + k)) (nI p0) ((nI k) - 6) (nI n), zi G b0 160 f] := hD
                  refine lv_iinc (v := nI (k + 1)) (lv' := [zI 1 (nI (k + 1)), zR 0 h0]) hx hb dX1_nextWord_85 hl (k := 0) rfl (nI_1 k) (by decide) rfl (fun ls hl => ?_)
                  refine lv_goto (tgt := 42) hx hb dX1_nextWord_88 (by decide) ?_
                  exact ih9 (k + 1) (nI (100 + k)) ((nI k) - 6) (by omega) (by rw [← hW, show 12 - k = (12 - (k + 1)) + 1 by omega, mWords]; rw [if_pos hye, if_pos hk6]) (by omega) _ _ (hP.sub [0, 1] rfl) (hD.sub [0, 1] (by decide) rfl) hS ls (lv_sub hl [0, 1] rfl)
        exact loop_42 (13) 0 1 x5 (Nat.zero_le _) (rfl) (by omega) _ _ (hP.sub [0, 1] rfl) (hD.sub [0, 1] (by decide) rfl) hS ls (lv_sub hl [0, 1] rfl)
      · skip
        have hlt : a1 < n := by
          rcases Nat.lt_or_ge a1 n with z | z
          · exact z
          · exact absurd (nI_le z (by omega)) c_1
        refine lv_aload_n hx hb dX1_nextWord_11 rfl (lv_at hl 0 rfl) ?_
        refine lv_aload_n hx hb dX1_nextWord_12 rfl (lv_at hl 0 rfl) ?_
        refine va_get (D := G.1) (ci := 1) (v := .int (nI a1)) (C := RX1) (T := TX1) (N := 7) hx hb hts hiX1 hown hK hP 0 rfl rfl 2 (by decide) kf23 (fun _ h9 => h9) rfl dX1_nextWord_13 ?_
        have hPc : va_P G.1 vwCl [zo1 h0 t0 b0 (nI a1) x3 (nI p0) x5 (nI n), zi G b0 160 f] H := hP.sub [0, 1] rfl
        have hDc : va_D A [zo1 h0 t0 b0 (nI a1) x3 (nI p0) x5 (nI n), zi G b0 160 f] := hD.sub [0, 1] (by decide) rfl
        have hFc := va_free (wc := [zo1 h0 t0 b0 (nI a1) x3 (nI p0) x5 (nI n), zi G b0 160 f]) hD hS hA [0, 1] rfl
        refine va_calli (va_runV (As := [.int (nI a1)]) (rest := []) ⟨hx, hb, hml, hown, hts⟩ (c_X1_isLetter l G h0 t0 b0 f (nI a1) x3 (nI p0) x5 (nI n) a1 H.size (by omega)) (cwV 1 hts gX1_nextWord_X1_isLetter rfl rfl rfl (by decide +kernel) ⟨Nat.le_of_ble_eq_true rfl, Nat.le_of_ble_eq_true rfl⟩) ⟨gPre_blind, va_recv hK hPc (ci := 1) (q0 := 0) rfl rfl, fun U hU hW => gPre_of hU hW hK hPc hDc⟩ rfl rfl hl.1 rfl (lv_room (Nat.le_of_ble_eq_true rfl)) dX1_nextWord_16 ⟨Nat.le_of_ble_eq_true rfl, Nat.le_of_ble_eq_true rfl⟩) hS (fun q _ h => hFc q h) hFc (fun r_13 u t H locs ht hvm w_14 hB hz1 hk1 hS => ?_)
        obtain ⟨hP1, hK1, hD1⟩ := hB
        rw [ht] at hP1
        have hP1 : va_P G.1 vwCl [zo1 h0 t0 b0 (nI a1) x3 (nI p0) x5 (nI n), zi G b0 160 f] H := hP1
        have hD1 : va_D (va_A [zo1 h0 t0 b0 (nI a1) x3 (nI p0) x5 (nI n), zi G b0 160 f] _) [zo1 h0 t0 b0 (nI a1) x3 (nI p0) x5 (nI n), zi G b0 160 f] := hD1
        have w_14 : r_13 = bz (mLet (f a1)) := w_14
        obtain ⟨hP, hD⟩ := va_join (wr := []) (w1 := [zo1 h0 t0 b0 (nI a1) x3 (nI p0) x5 (nI n), zi G b0 160 f]) hP hD [0, 1] [] rfl rfl (by decide) (by decide) hk1 hFc hP1 hD1
        have hP : va_P G.1 vwCl [zo1 h0 t0 b0 (nI a1) x3 (nI p0) x5 (nI n), zi G b0 160 f] H := hP
        have hD : va_D A [zo1 h0 t0 b0 (nI a1) x3 (nI p0) x5 (nI n), zi G b0 160 f] := hD
        have hlet := w_14
        refine lv_if_eq (tgt := 35) hx hb dX1_nextWord_19 (by decide) (fun c_15 => ?_) (fun c_15 => ?_)
        · skip
          have n_17 : (mLet (f a1)) = false := bz_eq w_14 c_15
          have hst : mLet (f a1) = false := by
            cases hq : mLet (f a1) with
            | false => rfl
            | true => rw [hq] at hlet; rw [hlet] at c_15; exact absurd c_15 (by decide)
          refine lv_aload_n hx hb dX1_nextWord_35 rfl (lv_at hl 0 rfl) ?_
          refine lv_iconst (v := 1) hx hb dX1_nextWord_36 (by decide) ?_
          refine va_put (D := G.1) (ci := 1) (v := .int 1) (ty := .int) (C := RX1) (T := TX1) (N := 7) hx hb hts hiX1 tyX1 tyX1_ok nmX1 hown hK hP hD hS 0 rfl rfl 3 (by decide) kf45 (fun _ h9 => h9) rfl (by decide +kernel) rfl rfl (Nat.le_of_ble_eq_true rfl) dX1_nextWord_37 (fun H locs hP hD hS => ?_)
          have hP : va_P G.1 vwCl [zo1 h0 t0 b0 (nI a1) 1 (nI p0) x5 (nI n), zi G b0 160 f] H := hP
          have hD : va_D A [zo1 h0 t0 b0 (nI a1) 1 (nI p0) x5 (nI n), zi G b0 160 f] := hD
          refine lv_iconst (v := 0) hx hb dX1_nextWord_40 (by decide) ?_
          refine lv_istore_n (lv' := [zI 1 0, zR 0 h0]) hx hb dX1_nextWord_41 rfl hl (by decide) rfl (fun ls hl => ?_)
          have hB : a1 = mRun mLet f n (n - a) a := by rw [← hR]; exact (mRun_stop _ (by first | exact Or.inl (by omega) | exact Or.inr hst)).symm
          have loop_42 : ∀ (n9 : Nat) (k : Nat) (y3 : Int32) (y5 : Int32), (k ≤ 12) → (mWords f a1 p0 (12 - k) k (y3, y5) = mWords f a1 p0 12 0 (1, x5)) → (12 - k) < n9 → ∀ (H : Heap) (locs : List Loc), va_P G.1 vwCl [zo1 h0 t0 b0 (nI a1) y3 (nI p0) y5 (nI n), zi G b0 160 f] H → va_D A [zo1 h0 t0 b0 (nI a1) y3 (nI p0) y5 (nI n), zi G b0 160 f] → va_S A s.heap H locs → ∀ ls : Array Slot, lv_has ls 2 [zI 1 (nI k), zR 0 h0] → W p l e (headSpec wsX1_nextWord ({ frames := 5, cells := 0, slots := 0, locals := 107 })).room s m ([.ref h0] : List Value).toArray below meth c H locs 0 0 (MQ below (q_X1_nextWord G E h0 t0 b0 f x3 x5 n a p0 A) ([.ref h0] : List Value).toArray s 0 0 A) (F0 m 42 ls []) := by
            intro n9
            induction n9 with
            | zero => intro k y3 y5 hk hW hm9; exact absurd hm9 (Nat.not_lt_zero _)
            | succ n9 ih9 =>
              intro k y3 y5 hk hW hm9 H locs hP hD hS ls hl
              refine lv_iload_n hx hb dX1_nextWord_42 rfl (lv_at hl 0 rfl) ?_
              refine lv_bipush (v := 12) hx hb dX1_nextWord_43 (by decide) ?_
              refine lv_icmp_ge (tgt := 91) hx hb dX1_nextWord_45 (by decide) (fun c_18 => ?_) (fun c_18 => ?_)
              · skip
                have hk2 : 12 ≤ k := (nI_leI (a := 12) (by omega) (by omega)).mp c_18
                have hP9 := hP.sub (ws' := [zo1 h0 t0 b0 (nI a1) y3 (nI p0) y5 (nI n), zi G b0 160 f]) [0, 1] rfl
                have hD9 := hD.sub (ws' := [zo1 h0 t0 b0 (nI a1) y3 (nI p0) y5 (nI n), zi G b0 160 f]) [0, 1] (by decide) rfl
                have hpost : (fun (u : Nat × Int32 × Int32) => match u with | (zb, zt, zm) => zb = mRun mLet f n (n - a) a ∧ zt = (mWords f zb p0 12 0 (1, x5)).1 ∧ zm = (mWords f zb p0 12 0 (1, x5)).2) (a1, y3, y5) := by
                  have hz : 12 - k = 0 := by omega
                  rw [hz, mWords] at hW
                  exact ⟨hB, by rw [← hW], by rw [← hW]⟩
                exact W.vret hx hb hr (fun t ht hW => ⟨⟨(a1, y3, y5), rfl, hpost, by rw [ht]; exact hP9, va_K.moved hW.alike hK, hD9⟩, hS.F ht⟩) hS.2.2 dX1_nextWord_91
              · skip
                have hk2 : k < 12 := by
                  rcases Nat.lt_or_ge k 12 with z | z
                  · exact z
                  · exact absurd (nI_le (a := 12) z (by omega)) c_18
                refine lv_aload_n hx hb dX1_nextWord_48 rfl (lv_at hl 1 rfl) ?_
                refine lv_iload_n hx hb dX1_nextWord_49 rfl (lv_at hl 0 rfl) ?_
                have hPc : va_P G.1 vwCl [] H := hP.sub [] rfl
                have hDc : va_D A [] := hD.sub [] (by decide) rfl
                have hFc := va_free (wc := []) hD hS hA [] rfl
                refine va_callr (va_runS (As := [.int (nI k)]) (rest := [.ref h0]) ⟨hx, hb, hml, hown, hts⟩ (c_X1_word l G E k H.size (hk2)) (va_cwS 1 hts gX1_nextWord_X1_word rfl rfl rfl (by decide +kernel) ⟨Nat.le_of_ble_eq_true rfl, Nat.le_of_ble_eq_true rfl⟩) ⟨gPreE_blind, fun U hU hW => gPreE_of hU hW hK hPc hDc hE hS hFc⟩ rfl rfl hl.1 rfl (lv_room (Nat.le_of_ble_eq_true rfl)) dX1_nextWord_50 ⟨Nat.le_of_ble_eq_true rfl, Nat.le_of_ble_eq_true rfl⟩) hS (fun q _ h => hFc q h) hFc (fun u r_19 t H locs ht hvm w_20 hB hz1 hk1 hS => ?_)
                obtain ⟨z_21, rfl⟩ : ∃ z, z = u := ⟨_, rfl⟩
                obtain ⟨hra, hB⟩ := hB
                subst hra
                obtain ⟨hP1, hK1, hD1⟩ := hB
                rw [ht] at hP1
                have hP1 : va_P G.1 vwCl [] H := hP1
                have hD1 : va_D (va_A [] _) [] := hD1
                have w_20 : r_19 = E.1 k := w_20
                obtain ⟨hP, hD⟩ := va_join (wr := [zo1 h0 t0 b0 (nI a1) y3 (nI p0) y5 (nI n), zi G b0 160 f]) (w1 := []) hP hD [] [0, 1] rfl rfl (by decide) (by decide) hk1 hFc hP1 hD1
                have hP : va_P G.1 vwCl [zo1 h0 t0 b0 (nI a1) y3 (nI p0) y5 (nI n), zi G b0 160 f] H := hP
                have hD : va_D A [zo1 h0 t0 b0 (nI a1) y3 (nI p0) y5 (nI n), zi G b0 160 f] := hD
                have w_20 : r_19 = E.1 k := w_20
                subst w_20
                have hPc : va_P G.1 vwCl [zo1 h0 t0 b0 (nI a1) y3 (nI p0) y5 (nI n), zi G b0 160 f] H := hP.sub [0, 1] rfl
                have hDc : va_D A [zo1 h0 t0 b0 (nI a1) y3 (nI p0) y5 (nI n), zi G b0 160 f] := hD.sub [0, 1] (by decide) rfl
                have hFc := va_free (wc := [zo1 h0 t0 b0 (nI a1) y3 (nI p0) y5 (nI n), zi G b0 160 f]) hD hS hA [0, 1] rfl
                refine va_calli (va_runV (As := [.ref (E.1 k)]) (rest := []) ⟨hx, hb, hml, hown, hts⟩ (c_X1_isSpelled l G E h0 t0 b0 f y3 y5 (nI n) a1 p0 k H.size ((by omega)) ((by omega)) ((by omega))) (cwV 1 hts gX1_nextWord_X1_isSpelled rfl rfl rfl (by decide +kernel) ⟨Nat.le_of_ble_eq_true rfl, Nat.le_of_ble_eq_true rfl⟩) ⟨gPreE_blind, va_recv hK hPc (ci := 1) (q0 := 0) rfl rfl, fun U hU hW => gPreE_of hU hW hK hPc hDc hE hS hFc⟩ rfl rfl hl.1 rfl (lv_room (Nat.le_of_ble_eq_true rfl)) dX1_nextWord_53 ⟨Nat.le_of_ble_eq_true rfl, Nat.le_of_ble_eq_true rfl⟩) hS (fun q _ h => hFc q h) hFc (fun r_22 u t H locs ht hvm w_23 hB hz1 hk1 hS => ?_)
                obtain ⟨hP1, hK1, hD1⟩ := hB
                rw [ht] at hP1
                have hP1 : va_P G.1 vwCl [zo1 h0 t0 b0 (nI a1) y3 (nI p0) y5 (nI n), zi G b0 160 f] H := hP1
                have hD1 : va_D (va_A [zo1 h0 t0 b0 (nI a1) y3 (nI p0) y5 (nI n), zi G b0 160 f] _) [zo1 h0 t0 b0 (nI a1) y3 (nI p0) y5 (nI n), zi G b0 160 f] := hD1
                have w_23 : r_22 = bz (mSp f a1 p0 k) := w_23
                obtain ⟨hP, hD⟩ := va_join (wr := []) (w1 := [zo1 h0 t0 b0 (nI a1) y3 (nI p0) y5 (nI n), zi G b0 160 f]) hP hD [0, 1] [] rfl rfl (by decide) (by decide) hk1 hFc hP1 hD1
                have hP : va_P G.1 vwCl [zo1 h0 t0 b0 (nI a1) y3 (nI p0) y5 (nI n), zi G b0 160 f] H := hP
                have hD : va_D A [zo1 h0 t0 b0 (nI a1) y3 (nI p0) y5 (nI n), zi G b0 160 f] := hD
                have hsp := w_23
                refine lv_if_eq (tgt := 85) hx hb dX1_nextWord_56 (by decide) (fun c_24 => ?_) (fun c_24 => ?_)
                · skip
                  have n_26 : (mSp f a1 p0 k) = false := bz_eq w_23 c_24
                  have hno : mSp f a1 p0 k = false := by
                    cases hq : mSp f a1 p0 k with
                    | false => rfl
                    | true => rw [hq] at hsp; rw [hsp] at c_24; exact absurd c_24 (by decide)
                  refine lv_iinc (v := nI (k + 1)) (lv' := [zI 1 (nI (k + 1)), zR 0 h0]) hx hb dX1_nextWord_85 hl (k := 0) rfl (nI_1 k) (by decide) rfl (fun ls hl => ?_)
                  refine lv_goto (tgt := 42) hx hb dX1_nextWord_88 (by decide) ?_
                  exact ih9 (k + 1) y3 y5 (by omega) (by rw [← hW, show 12 - k = (12 - (k + 1)) + 1 by omega, mWords]; rw [if_neg (by rw [hno]; decide)]) (by omega) _ _ (hP.sub [0, 1] rfl) (hD.sub [0, 1] (by decide) rfl) hS ls (lv_sub hl [0, 1] rfl)
                · skip
                  have p_25 : (mSp f a1 p0 k) = true := bz_ne w_23 c_24
                  have hye : mSp f a1 p0 k = true := by
                    cases hq : mSp f a1 p0 k with
                    | true => rfl
                    | false => rw [hq] at hsp; rw [hsp] at c_24; exact absurd rfl c_24
                  refine lv_aload_n hx hb dX1_nextWord_59 rfl (lv_at hl 1 rfl) ?_
                  refine lv_iload_n hx hb dX1_nextWord_60 rfl (lv_at hl 0 rfl) ?_
                  refine lv_bipush (v := 6) hx hb dX1_nextWord_61 (by decide) ?_
                  refine lv_icmp_ge (tgt := 73) hx hb dX1_nextWord_63 (by decide) (fun c_27 => ?_) (fun c_27 => ?_)
                  · skip
                    have hk6 : ¬ k < 6 := by have := (nI_leI (a := 6) (by omega) (by omega)).mp c_27; omega
                    refine lv_iconst (v := 3) hx hb dX1_nextWord_73 (by decide) ?_
                    refine va_put (D := G.1) (ci := 1) (v := .int 3) (ty := .int) (C := RX1) (T := TX1) (N := 7) hx hb hts hiX1 tyX1 tyX1_ok nmX1 hown hK hP hD hS 0 rfl rfl 3 (by decide) kf45 (fun _ h9 => h9) rfl (by decide +kernel) rfl rfl (Nat.le_of_ble_eq_true rfl) dX1_nextWord_74 (fun H locs hP hD hS => ?_)
                    have hP : va_P G.1 vwCl [zo1 h0 t0 b0 (nI a1) 3 (nI p0) y5 (nI n), zi G b0 160 f] H := hP
                    have hD : va_D A [zo1 h0 t0 b0 (nI a1) 3 (nI p0) y5 (nI n), zi G b0 160 f] := hD
                    refine lv_aload_n hx hb dX1_nextWord_77 rfl (lv_at hl 1 rfl) ?_
                    refine lv_iload_n hx hb dX1_nextWord_78 rfl (lv_at hl 0 rfl) ?_
                    refine lv_bipush (v := 6) hx hb dX1_nextWord_79 (by decide) ?_
                    refine lv_isub hx hb dX1_nextWord_81 ?_
                    refine va_put (D := G.1) (ci := 1) (v := .int ((nI k) - 6)) (ty := .int) (C := RX1) (T := TX1) (N := 7) hx hb hts hiX1 tyX1 tyX1_ok nmX1 hown hK hP hD hS 0 rfl rfl 5 (by decide) kf74 (fun _ h9 => h9) rfl (by decide +kernel) rfl rfl (Nat.le_of_ble_eq_true rfl) dX1_nextWord_82 (fun H locs hP hD hS => ?_)
                    have hP : va_P G.1 vwCl [zo1 h0 t0 b0 (nI a1) 3 (nI p0) ((nI k) - 6) (nI n), zi G b0 160 f] H := hP
                    have hD : va_D A [zo1 h0 t0 b0 (nI a1) 3 (nI p0) ((nI k) - 6) (nI n), zi G b0 160 f] := hD
                    refine lv_iinc (v := nI (k + 1)) (lv' := [zI 1 (nI (k + 1)), zR 0 h0]) hx hb dX1_nextWord_85 hl (k := 0) rfl (nI_1 k) (by decide) rfl (fun ls hl => ?_)
                    refine lv_goto (tgt := 42) hx hb dX1_nextWord_88 (by decide) ?_
                    exact ih9 (k + 1) 3 ((nI k) - 6) (by omega) (by rw [← hW, show 12 - k = (12 - (k + 1)) + 1 by omega, mWords]; rw [if_pos hye, if_neg hk6]) (by omega) _ _ (hP.sub [0, 1] rfl) (hD.sub [0, 1] (by decide) rfl) hS ls (lv_sub hl [0, 1] rfl)
                  · skip
                    have hk6 : k < 6 := by
                      rcases Nat.lt_or_ge k 6 with z | z
                      · exact z
                      · exact absurd (nI_le (a := 6) z (by omega)) c_27
                    refine lv_bipush (v := 100) hx hb dX1_nextWord_66 (by decide) ?_
                    refine lv_iload_n hx hb dX1_nextWord_68 rfl (lv_at hl 0 rfl) ?_
                    refine lv_iadd hx hb dX1_nextWord_69 ?_
                    refine lv_topi (fun v_28 ev_28 => ?_)
                    have ev_28 : v_28 = nI (100 + k) := ev_28.trans (nI_add 100 k)
                    subst ev_28
                    refine lv_goto (tgt := 74) hx hb dX1_nextWord_70 (by decide) ?_
                    refine va_put (D := G.1) (ci := 1) (v := .int (nI (100 + k))) (ty := .int) (C := RX1) (T := TX1) (N := 7) hx hb hts hiX1 tyX1 tyX1_ok nmX1 hown hK hP hD hS 0 rfl rfl 3 (by decide) kf45 (fun _ h9 => h9) rfl (by decide +kernel) rfl rfl (Nat.le_of_ble_eq_true rfl) dX1_nextWord_74 (fun H locs hP hD hS => ?_)
                    have hP : va_P G.1 vwCl [zo1 h0 t0 b0 (nI a1) (nI (100 + k)) (nI p0) y5 (nI n), zi G b0 160 f] H := hP
                    have hD : va_D A [zo1 h0 t0 b0 (nI a1) (nI (100 + k)) (nI p0) y5 (nI n), zi G b0 160 f] := hD
                    refine lv_aload_n hx hb dX1_nextWord_77 rfl (lv_at hl 1 rfl) ?_
                    refine lv_iload_n hx hb dX1_nextWord_78 rfl (lv_at hl 0 rfl) ?_
                    refine lv_bipush (v := 6) hx hb dX1_nextWord_79 (by decide) ?_
                    refine lv_isub hx hb dX1_nextWord_81 ?_
                    refine va_put (D := G.1) (ci := 1) (v := .int ((nI k) - 6)) (ty := .int) (C := RX1) (T := TX1) (N := 7) hx hb hts hiX1 tyX1 tyX1_ok nmX1 hown hK hP hD hS 0 rfl rfl 5 (by decide) kf74 (fun _ h9 => h9) rfl (by decide +kernel) rfl rfl (Nat.le_of_ble_eq_true rfl) dX1_nextWord_82 (fun H locs hP hD hS => ?_)
                    have hP : va_P G.1 vwCl [zo1 h0 t0 b0 (nI a1) (nI (100 + k)) (nI p0) ((nI k) - 6) (nI n), zi G b0 160 f] H := hP
                    have hD : va_D A [zo1 h0 t0 b0 (nI a1) (nI (100 + k)) (nI p0) ((nI k) - 6) (nI n), zi G b0 160 f] := hD
                    refine lv_iinc (v := nI (k + 1)) (lv' := [zI 1 (nI (k + 1)), zR 0 h0]) hx hb dX1_nextWord_85 hl (k := 0) rfl (nI_1 k) (by decide) rfl (fun ls hl => ?_)
                    refine lv_goto (tgt := 42) hx hb dX1_nextWord_88 (by decide) ?_
                    exact ih9 (k + 1) (nI (100 + k)) ((nI k) - 6) (by omega) (by rw [← hW, show 12 - k = (12 - (k + 1)) + 1 by omega, mWords]; rw [if_pos hye, if_pos hk6]) (by omega) _ _ (hP.sub [0, 1] rfl) (hD.sub [0, 1] (by decide) rfl) hS ls (lv_sub hl [0, 1] rfl)
          exact loop_42 (13) 0 1 x5 (Nat.zero_le _) (rfl) (by omega) _ _ (hP.sub [0, 1] rfl) (hD.sub [0, 1] (by decide) rfl) hS ls (lv_sub hl [0, 1] rfl)
        · skip
          have p_16 : (mLet (f a1)) = true := bz_ne w_14 c_15
          have hgo : mLet (f a1) = true := by
            cases hq : mLet (f a1) with
            | true => rfl
            | false => rw [hq] at hlet; rw [hlet] at c_15; exact absurd rfl c_15
          refine lv_aload_n hx hb dX1_nextWord_22 rfl (lv_at hl 0 rfl) ?_
          refine lv_dup hx hb dX1_nextWord_23 rfl ?_
          refine va_get (D := G.1) (ci := 1) (v := .int (nI a1)) (C := RX1) (T := TX1) (N := 7) hx hb hts hiX1 hown hK hP 0 rfl rfl 2 (by decide) kf23 (fun _ h9 => h9) rfl dX1_nextWord_24 ?_
          refine lv_iconst (v := 1) hx hb dX1_nextWord_27 (by decide) ?_
          refine lv_iadd hx hb dX1_nextWord_28 ?_
          refine lv_topi (fun v_29 ev_29 => ?_)
          have ev_29 : v_29 = nI (a1 + 1) := ev_29.trans (nI_1 a1)
          subst ev_29
          refine va_put (D := G.1) (ci := 1) (v := .int (nI (a1 + 1))) (ty := .int) (C := RX1) (T := TX1) (N := 7) hx hb hts hiX1 tyX1 tyX1_ok nmX1 hown hK hP hD hS 0 rfl rfl 2 (by decide) kf23 (fun _ h9 => h9) rfl (by decide +kernel) rfl rfl (Nat.le_of_ble_eq_true rfl) dX1_nextWord_29 (fun H locs hP hD hS => ?_)
          have hP : va_P G.1 vwCl [zo1 h0 t0 b0 (nI (a1 + 1)) x3 (nI p0) x5 (nI n), zi G b0 160 f] H := hP
          have hD : va_D A [zo1 h0 t0 b0 (nI (a1 + 1)) x3 (nI p0) x5 (nI n), zi G b0 160 f] := hD
          refine lv_goto (tgt := 0) hx hb dX1_nextWord_32 (by decide) ?_
          exact ih9 (a1 + 1) (by omega) (by rw [← hR, mRun_go hlt hgo]) (by omega) _ _ (hP.sub [0, 1] rfl) (hD.sub [0, 1] (by decide) rfl) hS ls (lv_sub hl [0] rfl)
  exact loop_0 (n - a + 1) a (⟨Nat.le_refl a, ha⟩) (rfl) (by omega) _ _ (hP.sub [0, 1] rfl) (hD.sub [0, 1] (by decide) rfl) hS ls (lv_sub hl [0] rfl)
abbrev q_X1_nextNumber (G : gG) (h0 t0 b0 : Nat) (f : Nat → Int32) (x3 : Int32) (x5 : Int32) (n : Nat) (a : Nat) (p0 : Nat) (A : Nat → Prop) : Array Value → State → Outcome → State → Prop := va_Qv (fun (u : Nat × Int32 × Int32) => match u with | (zb, zt, zm) => (zb, zm) = mNumR f n (n - a) a 0 ∧ zt = (if 4 < zb - p0 then 1 else 2)) (fun (u : Nat × Int32 × Int32) t => match u with | (zb, zt, zm) => va_P G.1 vwCl [zo1 h0 t0 b0 (nI zb) zt (nI p0) zm (nI n), zi G b0 160 f] t.heap ∧ gK G t ∧ va_D A [zo1 h0 t0 b0 (nI zb) zt (nI p0) zm (nI n), zi G b0 160 f]) A
set_option maxHeartbeats 4000000 in
set_option maxRecDepth 100000 in
theorem c_X1_nextNumber (l : Launch) (G : gG) (h0 t0 b0 : Nat) (f : Nat → Int32) (x3 : Int32) (x5 : Int32) (n : Nat) (a : Nat) (p0 : Nat) (sz : Nat) (hn : n ≤ 160) (ha : a ≤ n) (hp : p0 ≤ a) : Met l yX1_nextNumber wsX1_nextNumber ({ frames := 1, cells := 0, slots := 0, locals := 21 }) (gPre G [.ref h0] [zo1 h0 t0 b0 (nI a) x3 (nI p0) x5 (nI n), zi G b0 160 f] sz) (q_X1_nextNumber G h0 t0 b0 f x3 x5 n a p0 (va_A [zo1 h0 t0 b0 (nI a) x3 (nI p0) x5 (nI n), zi G b0 160 f] sz)) 0 0 (va_A [zo1 h0 t0 b0 (nI a) x3 (nI p0) x5 (nI n), zi G b0 160 f] sz) := by
  refine Met.ofW (cc := cX1_nextNumber) (maxL := 1) (ret := none) (by decide) rfl ?_
  intro p e s m args below meth c s₁ B hml hv
  obtain ⟨rfl, hsz, hP, hK, hD0⟩ := hv
  have hx := B.exec
  have hb := B.bytes
  have hr := B.returns
  have hts := atoms_spec (ws := wsX1_nextNumber) B.pre
  have hown : s.vm.findClass RX1 = some m.cls := findClass_of_methodNamed B.named
  have hlocks := B.notSynchronized
  subst hsz
  have hD := hD0.self (sz := s.heap.size)
  generalize hAe : va_A [zo1 h0 t0 b0 (nI a) x3 (nI p0) x5 (nI n), zi G b0 160 f] s.heap.size = A at hD ⊢
  have hA : ∀ q : Nat, s.heap.size ≤ q → A q := fun q h => by rw [← hAe]; exact Or.inr h
  have hS : va_S A s.heap s.heap [] := va_S.rf
  have hP : va_P G.1 vwCl [zo1 h0 t0 b0 (nI a) x3 (nI p0) x5 (nI n), zi G b0 160 f] s.heap := hP
  have hD : va_D A [zo1 h0 t0 b0 (nI a) x3 (nI p0) x5 (nI n), zi G b0 160 f] := hD
  have hl := lv_entry ([.ref h0]) (n := 1) (Nat.le_of_ble_eq_true rfl)
  rw [lg_entry_eq]
  generalize (lg_sl ([.ref h0]) ++ List.replicate (1 - (lg_sl ([.ref h0])).length) Slot.unset).toArray = ls at hl ⊢
  have hl : lv_has ls 1 [zR 0 h0] := hl
  have kf74 := hts (.fieldLink RX1 74 "PebbleInShoe$Reader" "meaning" "I") (by decide +kernel)
  have hiX1 := (by decide +kernel : ∀ w ∈ wsX10, w ∈ wsX1_nextNumber)
  have kf23 := hts (.fieldLink RX1 23 "PebbleInShoe$Reader" "at" "I") (by decide +kernel)
  have kf19 := hts (.fieldLink RX1 19 "PebbleInShoe$Reader" "length" "I") (by decide +kernel)
  have kf39 := hts (.fieldLink RX1 39 "PebbleInShoe$Reader" "place" "I") (by decide +kernel)
  have kf45 := hts (.fieldLink RX1 45 "PebbleInShoe$Reader" "token" "I") (by decide +kernel)
  have kf9 := hts (.fieldLink RX1 9 "PebbleInShoe$Reader" "bytes" "[I") (by decide +kernel)
  refine lv_aload_n hx hb dX1_nextNumber_0 rfl (lv_at hl 0 rfl) ?_
  refine lv_iconst (v := 0) hx hb dX1_nextNumber_1 (by decide) ?_
  refine va_put (D := G.1) (ci := 1) (v := .int 0) (ty := .int) (C := RX1) (T := TX1) (N := 7) hx hb hts hiX1 tyX1 tyX1_ok nmX1 hown hK hP hD hS 0 rfl rfl 5 (by decide) kf74 (fun _ h9 => h9) rfl (by decide +kernel) rfl rfl (Nat.le_of_ble_eq_true rfl) dX1_nextNumber_2 (fun H locs hP hD hS => ?_)
  have hP : va_P G.1 vwCl [zo1 h0 t0 b0 (nI a) x3 (nI p0) 0 (nI n), zi G b0 160 f] H := hP
  have hD : va_D A [zo1 h0 t0 b0 (nI a) x3 (nI p0) 0 (nI n), zi G b0 160 f] := hD
  have loop_5 : ∀ (n9 : Nat) (a1 : Nat) (y5 : Int32), (a ≤ a1 ∧ a1 ≤ n) → (mNumR f n (n - a1) a1 y5 = mNumR f n (n - a) a 0) → (n - a1) < n9 → ∀ (H : Heap) (locs : List Loc), va_P G.1 vwCl [zo1 h0 t0 b0 (nI a1) x3 (nI p0) y5 (nI n), zi G b0 160 f] H → va_D A [zo1 h0 t0 b0 (nI a1) x3 (nI p0) y5 (nI n), zi G b0 160 f] → va_S A s.heap H locs → ∀ ls : Array Slot, lv_has ls 1 [zR 0 h0] → W p l e (headSpec wsX1_nextNumber ({ frames := 1, cells := 0, slots := 0, locals := 21 })).room s m ([.ref h0] : List Value).toArray below meth c H locs 0 0 (MQ below (q_X1_nextNumber G h0 t0 b0 f x3 x5 n a p0 A) ([.ref h0] : List Value).toArray s 0 0 A) (F0 m 5 ls []) := by
    intro n9
    induction n9 with
    | zero => intro a1 y5 ha1 hR hm9; exact absurd hm9 (Nat.not_lt_zero _)
    | succ n9 ih9 =>
      intro a1 y5 ha1 hR hm9 H locs hP hD hS ls hl
      refine lv_aload_n hx hb dX1_nextNumber_5 rfl (lv_at hl 0 rfl) ?_
      refine va_get (D := G.1) (ci := 1) (v := .int (nI a1)) (C := RX1) (T := TX1) (N := 7) hx hb hts hiX1 hown hK hP 0 rfl rfl 2 (by decide) kf23 (fun _ h9 => h9) rfl dX1_nextNumber_6 ?_
      refine lv_aload_n hx hb dX1_nextNumber_9 rfl (lv_at hl 0 rfl) ?_
      refine va_get (D := G.1) (ci := 1) (v := .int (nI n)) (C := RX1) (T := TX1) (N := 7) hx hb hts hiX1 hown hK hP 0 rfl rfl 6 (by decide) kf19 (fun _ h9 => h9) rfl dX1_nextNumber_10 ?_
      refine lv_icmp_ge (tgt := 64) hx hb dX1_nextNumber_13 (by decide) (fun c_1 => ?_) (fun c_1 => ?_)
      · skip
        have hge : n ≤ a1 := (nI_leI (by omega) (by omega)).mp c_1
        refine lv_aload_n hx hb dX1_nextNumber_64 rfl (lv_at hl 0 rfl) ?_
        refine lv_aload_n hx hb dX1_nextNumber_65 rfl (lv_at hl 0 rfl) ?_
        refine va_get (D := G.1) (ci := 1) (v := .int (nI a1)) (C := RX1) (T := TX1) (N := 7) hx hb hts hiX1 hown hK hP 0 rfl rfl 2 (by decide) kf23 (fun _ h9 => h9) rfl dX1_nextNumber_66 ?_
        refine lv_aload_n hx hb dX1_nextNumber_69 rfl (lv_at hl 0 rfl) ?_
        refine va_get (D := G.1) (ci := 1) (v := .int (nI p0)) (C := RX1) (T := TX1) (N := 7) hx hb hts hiX1 hown hK hP 0 rfl rfl 4 (by decide) kf39 (fun _ h9 => h9) rfl dX1_nextNumber_70 ?_
        refine lv_isub hx hb dX1_nextNumber_73 ?_
        refine lv_topi (fun v_2 ev_2 => ?_)
        have ev_2 : v_2 = nI (a1 - p0) := ev_2.trans (pk_sub (by omega))
        subst ev_2
        refine lv_iconst (v := 4) hx hb dX1_nextNumber_74 (by decide) ?_
        refine lv_icmp_le (tgt := 82) hx hb dX1_nextNumber_75 (by decide) (fun c_3 => ?_) (fun c_3 => ?_)
        · skip
          have h4 : ¬ 4 < a1 - p0 := by have := (nI_leI (b := 4) (by omega) (by omega)).mp c_3; omega
          refine lv_iconst (v := 2) hx hb dX1_nextNumber_82 (by decide) ?_
          refine va_put (D := G.1) (ci := 1) (v := .int 2) (ty := .int) (C := RX1) (T := TX1) (N := 7) hx hb hts hiX1 tyX1 tyX1_ok nmX1 hown hK hP hD hS 0 rfl rfl 3 (by decide) kf45 (fun _ h9 => h9) rfl (by decide +kernel) rfl rfl (Nat.le_of_ble_eq_true rfl) dX1_nextNumber_83 (fun H locs hP hD hS => ?_)
          have hP : va_P G.1 vwCl [zo1 h0 t0 b0 (nI a1) 2 (nI p0) y5 (nI n), zi G b0 160 f] H := hP
          have hD : va_D A [zo1 h0 t0 b0 (nI a1) 2 (nI p0) y5 (nI n), zi G b0 160 f] := hD
          have hP9 := hP.sub (ws' := [zo1 h0 t0 b0 (nI a1) 2 (nI p0) y5 (nI n), zi G b0 160 f]) [0, 1] rfl
          have hD9 := hD.sub (ws' := [zo1 h0 t0 b0 (nI a1) 2 (nI p0) y5 (nI n), zi G b0 160 f]) [0, 1] (by decide) rfl
          have hpost : (fun (u : Nat × Int32 × Int32) => match u with | (zb, zt, zm) => (zb, zm) = mNumR f n (n - a) a 0 ∧ zt = (if 4 < zb - p0 then 1 else 2)) (a1, 2, y5) := by
            refine ⟨?_, ?_⟩
            · rw [← hR]; exact (mNumR_stop _ (by first | exact Or.inl (by omega) | exact Or.inr hst)).symm
            · first | rw [if_pos h4] | rw [if_neg h4]
          exact W.vret hx hb hr (fun t ht hW => ⟨⟨(a1, 2, y5), rfl, hpost, by rw [ht]; exact hP9, va_K.moved hW.alike hK, hD9⟩, hS.F ht⟩) hS.2.2 dX1_nextNumber_86
        · skip
          have h4 : 4 < a1 - p0 := by
            rcases Nat.lt_or_ge 4 (a1 - p0) with z | z
            · exact z
            · exact absurd (nI_le (b := 4) z (by omega)) c_3
          refine lv_iconst (v := 1) hx hb dX1_nextNumber_78 (by decide) ?_
          refine lv_goto (tgt := 83) hx hb dX1_nextNumber_79 (by decide) ?_
          refine va_put (D := G.1) (ci := 1) (v := .int 1) (ty := .int) (C := RX1) (T := TX1) (N := 7) hx hb hts hiX1 tyX1 tyX1_ok nmX1 hown hK hP hD hS 0 rfl rfl 3 (by decide) kf45 (fun _ h9 => h9) rfl (by decide +kernel) rfl rfl (Nat.le_of_ble_eq_true rfl) dX1_nextNumber_83 (fun H locs hP hD hS => ?_)
          have hP : va_P G.1 vwCl [zo1 h0 t0 b0 (nI a1) 1 (nI p0) y5 (nI n), zi G b0 160 f] H := hP
          have hD : va_D A [zo1 h0 t0 b0 (nI a1) 1 (nI p0) y5 (nI n), zi G b0 160 f] := hD
          have hP9 := hP.sub (ws' := [zo1 h0 t0 b0 (nI a1) 1 (nI p0) y5 (nI n), zi G b0 160 f]) [0, 1] rfl
          have hD9 := hD.sub (ws' := [zo1 h0 t0 b0 (nI a1) 1 (nI p0) y5 (nI n), zi G b0 160 f]) [0, 1] (by decide) rfl
          have hpost : (fun (u : Nat × Int32 × Int32) => match u with | (zb, zt, zm) => (zb, zm) = mNumR f n (n - a) a 0 ∧ zt = (if 4 < zb - p0 then 1 else 2)) (a1, 1, y5) := by
            refine ⟨?_, ?_⟩
            · rw [← hR]; exact (mNumR_stop _ (by first | exact Or.inl (by omega) | exact Or.inr hst)).symm
            · first | rw [if_pos h4] | rw [if_neg h4]
          exact W.vret hx hb hr (fun t ht hW => ⟨⟨(a1, 1, y5), rfl, hpost, by rw [ht]; exact hP9, va_K.moved hW.alike hK, hD9⟩, hS.F ht⟩) hS.2.2 dX1_nextNumber_86
      · skip
        have hlt : a1 < n := by
          rcases Nat.lt_or_ge a1 n with z | z
          · exact z
          · exact absurd (nI_le z (by omega)) c_1
        refine lv_aload_n hx hb dX1_nextNumber_16 rfl (lv_at hl 0 rfl) ?_
        refine lv_aload_n hx hb dX1_nextNumber_17 rfl (lv_at hl 0 rfl) ?_
        refine va_get (D := G.1) (ci := 1) (v := .int (nI a1)) (C := RX1) (T := TX1) (N := 7) hx hb hts hiX1 hown hK hP 0 rfl rfl 2 (by decide) kf23 (fun _ h9 => h9) rfl dX1_nextNumber_18 ?_
        have hPc : va_P G.1 vwCl [zo1 h0 t0 b0 (nI a1) x3 (nI p0) y5 (nI n), zi G b0 160 f] H := hP.sub [0, 1] rfl
        have hDc : va_D A [zo1 h0 t0 b0 (nI a1) x3 (nI p0) y5 (nI n), zi G b0 160 f] := hD.sub [0, 1] (by decide) rfl
        have hFc := va_free (wc := [zo1 h0 t0 b0 (nI a1) x3 (nI p0) y5 (nI n), zi G b0 160 f]) hD hS hA [0, 1] rfl
        refine va_calli (va_runV (As := [.int (nI a1)]) (rest := []) ⟨hx, hb, hml, hown, hts⟩ (c_X1_isDigit l G h0 t0 b0 f (nI a1) x3 (nI p0) y5 (nI n) a1 H.size (by omega)) (cwV 1 hts gX1_nextNumber_X1_isDigit rfl rfl rfl (by decide +kernel) ⟨Nat.le_of_ble_eq_true rfl, Nat.le_of_ble_eq_true rfl⟩) ⟨gPre_blind, va_recv hK hPc (ci := 1) (q0 := 0) rfl rfl, fun U hU hW => gPre_of hU hW hK hPc hDc⟩ rfl rfl hl.1 rfl (lv_room (Nat.le_of_ble_eq_true rfl)) dX1_nextNumber_21 ⟨Nat.le_of_ble_eq_true rfl, Nat.le_of_ble_eq_true rfl⟩) hS (fun q _ h => hFc q h) hFc (fun r_4 u t H locs ht hvm w_5 hB hz1 hk1 hS => ?_)
        obtain ⟨hP1, hK1, hD1⟩ := hB
        rw [ht] at hP1
        have hP1 : va_P G.1 vwCl [zo1 h0 t0 b0 (nI a1) x3 (nI p0) y5 (nI n), zi G b0 160 f] H := hP1
        have hD1 : va_D (va_A [zo1 h0 t0 b0 (nI a1) x3 (nI p0) y5 (nI n), zi G b0 160 f] _) [zo1 h0 t0 b0 (nI a1) x3 (nI p0) y5 (nI n), zi G b0 160 f] := hD1
        have w_5 : r_4 = bz (mDig (f a1)) := w_5
        obtain ⟨hP, hD⟩ := va_join (wr := []) (w1 := [zo1 h0 t0 b0 (nI a1) x3 (nI p0) y5 (nI n), zi G b0 160 f]) hP hD [0, 1] [] rfl rfl (by decide) (by decide) hk1 hFc hP1 hD1
        have hP : va_P G.1 vwCl [zo1 h0 t0 b0 (nI a1) x3 (nI p0) y5 (nI n), zi G b0 160 f] H := hP
        have hD : va_D A [zo1 h0 t0 b0 (nI a1) x3 (nI p0) y5 (nI n), zi G b0 160 f] := hD
        have hlet := w_5
        refine lv_if_eq (tgt := 64) hx hb dX1_nextNumber_24 (by decide) (fun c_6 => ?_) (fun c_6 => ?_)
        · skip
          have n_8 : (mDig (f a1)) = false := bz_eq w_5 c_6
          have hst : mDig (f a1) = false := by
            cases hq : mDig (f a1) with
            | false => rfl
            | true => rw [hq] at hlet; rw [hlet] at c_6; exact absurd c_6 (by decide)
          refine lv_aload_n hx hb dX1_nextNumber_64 rfl (lv_at hl 0 rfl) ?_
          refine lv_aload_n hx hb dX1_nextNumber_65 rfl (lv_at hl 0 rfl) ?_
          refine va_get (D := G.1) (ci := 1) (v := .int (nI a1)) (C := RX1) (T := TX1) (N := 7) hx hb hts hiX1 hown hK hP 0 rfl rfl 2 (by decide) kf23 (fun _ h9 => h9) rfl dX1_nextNumber_66 ?_
          refine lv_aload_n hx hb dX1_nextNumber_69 rfl (lv_at hl 0 rfl) ?_
          refine va_get (D := G.1) (ci := 1) (v := .int (nI p0)) (C := RX1) (T := TX1) (N := 7) hx hb hts hiX1 hown hK hP 0 rfl rfl 4 (by decide) kf39 (fun _ h9 => h9) rfl dX1_nextNumber_70 ?_
          refine lv_isub hx hb dX1_nextNumber_73 ?_
          refine lv_topi (fun v_9 ev_9 => ?_)
          have ev_9 : v_9 = nI (a1 - p0) := ev_9.trans (pk_sub (by omega))
          subst ev_9
          refine lv_iconst (v := 4) hx hb dX1_nextNumber_74 (by decide) ?_
          refine lv_icmp_le (tgt := 82) hx hb dX1_nextNumber_75 (by decide) (fun c_10 => ?_) (fun c_10 => ?_)
          · skip
            have h4 : ¬ 4 < a1 - p0 := by have := (nI_leI (b := 4) (by omega) (by omega)).mp c_10; omega
            refine lv_iconst (v := 2) hx hb dX1_nextNumber_82 (by decide) ?_
            refine va_put (D := G.1) (ci := 1) (v := .int 2) (ty := .int) (C := RX1) (T := TX1) (N := 7) hx hb hts hiX1 tyX1 tyX1_ok nmX1 hown hK hP hD hS 0 rfl rfl 3 (by decide) kf45 (fun _ h9 => h9) rfl (by decide +kernel) rfl rfl (Nat.le_of_ble_eq_true rfl) dX1_nextNumber_83 (fun H locs hP hD hS => ?_)
            have hP : va_P G.1 vwCl [zo1 h0 t0 b0 (nI a1) 2 (nI p0) y5 (nI n), zi G b0 160 f] H := hP
            have hD : va_D A [zo1 h0 t0 b0 (nI a1) 2 (nI p0) y5 (nI n), zi G b0 160 f] := hD
            have hP9 := hP.sub (ws' := [zo1 h0 t0 b0 (nI a1) 2 (nI p0) y5 (nI n), zi G b0 160 f]) [0, 1] rfl
            have hD9 := hD.sub (ws' := [zo1 h0 t0 b0 (nI a1) 2 (nI p0) y5 (nI n), zi G b0 160 f]) [0, 1] (by decide) rfl
            have hpost : (fun (u : Nat × Int32 × Int32) => match u with | (zb, zt, zm) => (zb, zm) = mNumR f n (n - a) a 0 ∧ zt = (if 4 < zb - p0 then 1 else 2)) (a1, 2, y5) := by
              refine ⟨?_, ?_⟩
              · rw [← hR]; exact (mNumR_stop _ (by first | exact Or.inl (by omega) | exact Or.inr hst)).symm
              · first | rw [if_pos h4] | rw [if_neg h4]
            exact W.vret hx hb hr (fun t ht hW => ⟨⟨(a1, 2, y5), rfl, hpost, by rw [ht]; exact hP9, va_K.moved hW.alike hK, hD9⟩, hS.F ht⟩) hS.2.2 dX1_nextNumber_86
          · skip
            have h4 : 4 < a1 - p0 := by
              rcases Nat.lt_or_ge 4 (a1 - p0) with z | z
              · exact z
              · exact absurd (nI_le (b := 4) z (by omega)) c_10
            refine lv_iconst (v := 1) hx hb dX1_nextNumber_78 (by decide) ?_
            refine lv_goto (tgt := 83) hx hb dX1_nextNumber_79 (by decide) ?_
            refine va_put (D := G.1) (ci := 1) (v := .int 1) (ty := .int) (C := RX1) (T := TX1) (N := 7) hx hb hts hiX1 tyX1 tyX1_ok nmX1 hown hK hP hD hS 0 rfl rfl 3 (by decide) kf45 (fun _ h9 => h9) rfl (by decide +kernel) rfl rfl (Nat.le_of_ble_eq_true rfl) dX1_nextNumber_83 (fun H locs hP hD hS => ?_)
            have hP : va_P G.1 vwCl [zo1 h0 t0 b0 (nI a1) 1 (nI p0) y5 (nI n), zi G b0 160 f] H := hP
            have hD : va_D A [zo1 h0 t0 b0 (nI a1) 1 (nI p0) y5 (nI n), zi G b0 160 f] := hD
            have hP9 := hP.sub (ws' := [zo1 h0 t0 b0 (nI a1) 1 (nI p0) y5 (nI n), zi G b0 160 f]) [0, 1] rfl
            have hD9 := hD.sub (ws' := [zo1 h0 t0 b0 (nI a1) 1 (nI p0) y5 (nI n), zi G b0 160 f]) [0, 1] (by decide) rfl
            have hpost : (fun (u : Nat × Int32 × Int32) => match u with | (zb, zt, zm) => (zb, zm) = mNumR f n (n - a) a 0 ∧ zt = (if 4 < zb - p0 then 1 else 2)) (a1, 1, y5) := by
              refine ⟨?_, ?_⟩
              · rw [← hR]; exact (mNumR_stop _ (by first | exact Or.inl (by omega) | exact Or.inr hst)).symm
              · first | rw [if_pos h4] | rw [if_neg h4]
            exact W.vret hx hb hr (fun t ht hW => ⟨⟨(a1, 1, y5), rfl, hpost, by rw [ht]; exact hP9, va_K.moved hW.alike hK, hD9⟩, hS.F ht⟩) hS.2.2 dX1_nextNumber_86
        · skip
          have p_7 : (mDig (f a1)) = true := bz_ne w_5 c_6
          have hgo : mDig (f a1) = true := by
            cases hq : mDig (f a1) with
            | true => rfl
            | false => rw [hq] at hlet; rw [hlet] at c_6; exact absurd rfl c_6
          refine lv_aload_n hx hb dX1_nextNumber_27 rfl (lv_at hl 0 rfl) ?_
          refine lv_bipush (v := 10) hx hb dX1_nextNumber_28 (by decide) ?_
          refine lv_aload_n hx hb dX1_nextNumber_30 rfl (lv_at hl 0 rfl) ?_
          refine va_get (D := G.1) (ci := 1) (v := .int y5) (C := RX1) (T := TX1) (N := 7) hx hb hts hiX1 hown hK hP 0 rfl rfl 5 (by decide) kf74 (fun _ h9 => h9) rfl dX1_nextNumber_31 ?_
          refine lv_imul hx hb dX1_nextNumber_34 ?_
          refine lv_aload_n hx hb dX1_nextNumber_35 rfl (lv_at hl 0 rfl) ?_
          refine va_get (D := G.1) (ci := 1) (v := .ref b0) (C := RX1) (T := TX1) (N := 7) hx hb hts hiX1 hown hK hP 0 rfl rfl 1 (by decide) kf9 (fun _ h9 => h9) rfl dX1_nextNumber_36 ?_
          refine lv_aload_n hx hb dX1_nextNumber_39 rfl (lv_at hl 0 rfl) ?_
          refine va_get (D := G.1) (ci := 1) (v := .int (nI a1)) (C := RX1) (T := TX1) (N := 7) hx hb hts hiX1 hown hK hP 0 rfl rfl 2 (by decide) kf23 (fun _ h9 => h9) rfl dX1_nextNumber_40 ?_
          refine va_iald (D := G.1) hx hb hK hP 1 0 rfl rfl (i := (nI a1)) (vp_in_nI (by omega) (by omega)) dX1_nextNumber_43 ?_
          refine lv_topi (fun v_11 ev_11 => ?_)
          have ev_11 : v_11 = f a1 := ev_11.trans (by rw [nI_clamp (by omega)])
          subst ev_11
          refine lv_bipush (v := 48) hx hb dX1_nextNumber_44 (by decide) ?_
          refine lv_isub hx hb dX1_nextNumber_46 ?_
          refine lv_iadd hx hb dX1_nextNumber_47 ?_
          refine va_put (D := G.1) (ci := 1) (v := .int ((10 * y5) + ((f a1) - 48))) (ty := .int) (C := RX1) (T := TX1) (N := 7) hx hb hts hiX1 tyX1 tyX1_ok nmX1 hown hK hP hD hS 0 rfl rfl 5 (by decide) kf74 (fun _ h9 => h9) rfl (by decide +kernel) rfl rfl (Nat.le_of_ble_eq_true rfl) dX1_nextNumber_48 (fun H locs hP hD hS => ?_)
          have hP : va_P G.1 vwCl [zo1 h0 t0 b0 (nI a1) x3 (nI p0) ((10 * y5) + ((f a1) - 48)) (nI n), zi G b0 160 f] H := hP
          have hD : va_D A [zo1 h0 t0 b0 (nI a1) x3 (nI p0) ((10 * y5) + ((f a1) - 48)) (nI n), zi G b0 160 f] := hD
          refine lv_aload_n hx hb dX1_nextNumber_51 rfl (lv_at hl 0 rfl) ?_
          refine lv_dup hx hb dX1_nextNumber_52 rfl ?_
          refine va_get (D := G.1) (ci := 1) (v := .int (nI a1)) (C := RX1) (T := TX1) (N := 7) hx hb hts hiX1 hown hK hP 0 rfl rfl 2 (by decide) kf23 (fun _ h9 => h9) rfl dX1_nextNumber_53 ?_
          refine lv_iconst (v := 1) hx hb dX1_nextNumber_56 (by decide) ?_
          refine lv_iadd hx hb dX1_nextNumber_57 ?_
          refine lv_topi (fun v_12 ev_12 => ?_)
          have ev_12 : v_12 = nI (a1 + 1) := ev_12.trans (nI_1 a1)
          subst ev_12
          refine va_put (D := G.1) (ci := 1) (v := .int (nI (a1 + 1))) (ty := .int) (C := RX1) (T := TX1) (N := 7) hx hb hts hiX1 tyX1 tyX1_ok nmX1 hown hK hP hD hS 0 rfl rfl 2 (by decide) kf23 (fun _ h9 => h9) rfl (by decide +kernel) rfl rfl (Nat.le_of_ble_eq_true rfl) dX1_nextNumber_58 (fun H locs hP hD hS => ?_)
          have hP : va_P G.1 vwCl [zo1 h0 t0 b0 (nI (a1 + 1)) x3 (nI p0) ((10 * y5) + ((f a1) - 48)) (nI n), zi G b0 160 f] H := hP
          have hD : va_D A [zo1 h0 t0 b0 (nI (a1 + 1)) x3 (nI p0) ((10 * y5) + ((f a1) - 48)) (nI n), zi G b0 160 f] := hD
          refine lv_goto (tgt := 5) hx hb dX1_nextNumber_61 (by decide) ?_
          exact ih9 (a1 + 1) ((10 * y5) + ((f a1) - 48)) (by omega) (by rw [← hR, mNumR_go hlt hgo]) (by omega) _ _ (hP.sub [0, 1] rfl) (hD.sub [0, 1] (by decide) rfl) hS ls (lv_sub hl [0] rfl)
  exact loop_5 (n - a + 1) a 0 (⟨Nat.le_refl a, ha⟩) (rfl) (by omega) _ _ (hP.sub [0, 1] rfl) (hD.sub [0, 1] (by decide) rfl) hS ls (lv_sub hl [0] rfl)
