noncomputable def m_X3_one (v0 : Int32) (v1 : Int32) : Int32 := if v0 = 106 then -v1 else (if v1 = 0 then 1 else 0)
abbrev q_X3_one (G : gG) (v0 : Int32) (v1 : Int32) (A : Nat → Prop) : Array Value → State → Outcome → State → Prop := va_Qi (fun (r : Int32) (u : Unit) => match u with | _ => r = m_X3_one v0 v1) (fun (u : Unit) t => match u with | _ => va_P G.1 vwCl [] t.heap ∧ gK G t ∧ va_D A []) A
set_option maxHeartbeats 4000000 in
set_option maxRecDepth 100000 in
theorem c_X3_one (l : Launch) (G : gG) (v0 : Int32) (v1 : Int32) (sz : Nat) : Met l yX3_one wsX3_one ({ frames := 0, cells := 0, slots := 0, locals := 0 }) (gPre G [.int v0, .int v1] [] sz) (q_X3_one G v0 v1 (va_A [] sz)) 0 0 (va_A [] sz) := by
  refine Met.ofW (cc := cX3_one) (maxL := 2) (ret := (some .int)) (by decide +kernel) rfl ?_
  intro p e s m args below meth c s₁ B hml hv
  obtain ⟨rfl, hsz, hP, hK, hD0⟩ := hv
  have hx := B.exec
  have hb := B.bytes
  have hr := B.returns
  have hts := atoms_spec (ws := wsX3_one) B.pre
  have hown : s.vm.findClass RX3 = some m.cls := findClass_of_methodNamed B.named
  have hlocks := B.notSynchronized
  subst hsz
  have hD := hD0.self (sz := s.heap.size)
  generalize hAe : va_A [] s.heap.size = A at hD ⊢
  have hA : ∀ q : Nat, s.heap.size ≤ q → A q := fun q h => by rw [← hAe]; exact Or.inr h
  have hS : va_S A s.heap s.heap [] := va_S.rf
  have hz9 : gPD G A [] s.heap := ⟨hP, hD⟩
  have hP := hz9.1
  have hD := hz9.2
  have hl := lv_entry ([.int v0, .int v1]) (n := 2) (Nat.le_of_ble_eq_true rfl)
  rw [lg_entry_eq]
  generalize (lg_sl ([.int v0, .int v1]) ++ List.replicate (2 - (lg_sl ([.int v0, .int v1])).length) Slot.unset).toArray = ls at hl ⊢
  have hl : lv_has ls 2 [zI 0 v0, zI 1 v1] := hl
  refine lv_iload_n hx hb dX3_one_0 rfl (lv_at hl 0 rfl) ?_
  refine lv_bipush (v := 106) hx hb dX3_one_1 (by decide +kernel) ?_
  refine lv_icmp_ne (tgt := 9) hx hb dX3_one_3 (by decide +kernel) (fun c_1 => ?_) (fun c_1 => ?_)
  · skip
    refine lv_iload_n hx hb dX3_one_9 rfl (lv_at hl 1 rfl) ?_
    refine lv_if_ne (tgt := 17) hx hb dX3_one_10 (by decide +kernel) (fun c_2 => ?_) (fun c_2 => ?_)
    · skip
      refine lv_iconst (v := 0) hx hb dX3_one_17 (by decide +kernel) ?_
      have hpost : (fun (r : Int32) (u : Unit) => match u with | _ => r = m_X3_one v0 v1) 0 () := (show m_X3_one v0 v1 = 0 from by unfold m_X3_one; rw [if_neg c_1, if_neg c_2]).symm
      exact W.iret (v := 0) hx hb hr (fun t ht hW => ⟨⟨0, (), rfl, hpost, by rw [ht]; exact hP, va_K.moved hW.alike hK, hD⟩, hS.F ht⟩) hS.2.2 dX3_one_18
    · skip
      refine lv_iconst (v := 1) hx hb dX3_one_13 (by decide +kernel) ?_
      refine lv_goto (tgt := 18) hx hb dX3_one_14 (by decide +kernel) ?_
      have hpost : (fun (r : Int32) (u : Unit) => match u with | _ => r = m_X3_one v0 v1) 1 () := (show m_X3_one v0 v1 = 1 from by unfold m_X3_one; rw [if_neg c_1, if_pos c_2]).symm
      exact W.iret (v := 1) hx hb hr (fun t ht hW => ⟨⟨1, (), rfl, hpost, by rw [ht]; exact hP, va_K.moved hW.alike hK, hD⟩, hS.F ht⟩) hS.2.2 dX3_one_18
  · skip
    refine lv_iload_n hx hb dX3_one_6 rfl (lv_at hl 1 rfl) ?_
    refine lv_ineg hx hb dX3_one_7 ?_
    have hpost : (fun (r : Int32) (u : Unit) => match u with | _ => r = m_X3_one v0 v1) (-v1) () := (show m_X3_one v0 v1 = (-v1) from by unfold m_X3_one; rw [if_pos c_1]).symm
    exact W.iret (v := (-v1)) hx hb hr (fun t ht hW => ⟨⟨(-v1), (), rfl, hpost, by rw [ht]; exact hP, va_K.moved hW.alike hK, hD⟩, hS.F ht⟩) hS.2.2 dX3_one_8
noncomputable def m_X3_two (v0 : Int32) (v1 : Int32) (v2 : Int32) : Int32 := if v0 = 42 then v1 * v2 else (if v0 = 43 then v1 + v2 else (if v0 = 45 then v1 - v2 else (if v0 = 60 then (if v2 ≤ v1 then 0 else 1) else (if v0 = 61 then (if v1 = v2 then 1 else 0) else (if v0 = 104 then (if v1 = 0 then 0 else (if v2 = 0 then 0 else 1)) else (if v1 = 0 then (if v2 = 0 then 0 else 1) else 1))))))
abbrev q_X3_two (G : gG) (v0 : Int32) (v1 : Int32) (v2 : Int32) (A : Nat → Prop) : Array Value → State → Outcome → State → Prop := va_Qi (fun (r : Int32) (u : Unit) => match u with | _ => r = m_X3_two v0 v1 v2) (fun (u : Unit) t => match u with | _ => va_P G.1 vwCl [] t.heap ∧ gK G t ∧ va_D A []) A
set_option maxHeartbeats 4000000 in
set_option maxRecDepth 100000 in
theorem c_X3_two (l : Launch) (G : gG) (v0 : Int32) (v1 : Int32) (v2 : Int32) (sz : Nat) : Met l yX3_two wsX3_two ({ frames := 0, cells := 0, slots := 0, locals := 0 }) (gPre G [.int v0, .int v1, .int v2] [] sz) (q_X3_two G v0 v1 v2 (va_A [] sz)) 0 0 (va_A [] sz) := by
  refine Met.ofW (cc := cX3_two) (maxL := 3) (ret := (some .int)) (by decide +kernel) rfl ?_
  intro p e s m args below meth c s₁ B hml hv
  obtain ⟨rfl, hsz, hP, hK, hD0⟩ := hv
  have hx := B.exec
  have hb := B.bytes
  have hr := B.returns
  have hts := atoms_spec (ws := wsX3_two) B.pre
  have hown : s.vm.findClass RX3 = some m.cls := findClass_of_methodNamed B.named
  have hlocks := B.notSynchronized
  subst hsz
  have hD := hD0.self (sz := s.heap.size)
  generalize hAe : va_A [] s.heap.size = A at hD ⊢
  have hA : ∀ q : Nat, s.heap.size ≤ q → A q := fun q h => by rw [← hAe]; exact Or.inr h
  have hS : va_S A s.heap s.heap [] := va_S.rf
  have hz9 : gPD G A [] s.heap := ⟨hP, hD⟩
  have hP := hz9.1
  have hD := hz9.2
  have hl := lv_entry ([.int v0, .int v1, .int v2]) (n := 3) (Nat.le_of_ble_eq_true rfl)
  rw [lg_entry_eq]
  generalize (lg_sl ([.int v0, .int v1, .int v2]) ++ List.replicate (3 - (lg_sl ([.int v0, .int v1, .int v2])).length) Slot.unset).toArray = ls at hl ⊢
  have hl : lv_has ls 3 [zI 0 v0, zI 1 v1, zI 2 v2] := hl
  refine lv_iload_n hx hb dX3_two_0 rfl (lv_at hl 0 rfl) ?_
  by_cases s_1 : v0 = 42
  · skip
    refine lv_lookup (off := 67) (tgt := 68) hx hb dX3_two_1 (by decide +kernel) (by rw [s_1]; decide) (by decide +kernel) ?_
    refine lv_iload_n hx hb dX3_two_68 rfl (lv_at hl 1 rfl) ?_
    refine lv_iload_n hx hb dX3_two_69 rfl (lv_at hl 2 rfl) ?_
    refine lv_imul hx hb dX3_two_70 ?_
    have hpost : (fun (r : Int32) (u : Unit) => match u with | _ => r = m_X3_two v0 v1 v2) (v1 * v2) () := (show m_X3_two v0 v1 v2 = (v1 * v2) from by unfold m_X3_two; rw [if_pos s_1]).symm
    exact W.iret (v := (v1 * v2)) hx hb hr (fun t ht hW => ⟨⟨(v1 * v2), (), rfl, hpost, by rw [ht]; exact hP, va_K.moved hW.alike hK, hD⟩, hS.F ht⟩) hS.2.2 dX3_two_71
  by_cases s_2 : v0 = 43
  · skip
    refine lv_lookup (off := 59) (tgt := 60) hx hb dX3_two_1 (by decide +kernel) (by rw [s_2]; decide) (by decide +kernel) ?_
    refine lv_iload_n hx hb dX3_two_60 rfl (lv_at hl 1 rfl) ?_
    refine lv_iload_n hx hb dX3_two_61 rfl (lv_at hl 2 rfl) ?_
    refine lv_iadd hx hb dX3_two_62 ?_
    have hpost : (fun (r : Int32) (u : Unit) => match u with | _ => r = m_X3_two v0 v1 v2) (v1 + v2) () := (show m_X3_two v0 v1 v2 = (v1 + v2) from by unfold m_X3_two; rw [if_neg s_1, if_pos s_2]).symm
    exact W.iret (v := (v1 + v2)) hx hb hr (fun t ht hW => ⟨⟨(v1 + v2), (), rfl, hpost, by rw [ht]; exact hP, va_K.moved hW.alike hK, hD⟩, hS.F ht⟩) hS.2.2 dX3_two_63
  by_cases s_3 : v0 = 45
  · skip
    refine lv_lookup (off := 63) (tgt := 64) hx hb dX3_two_1 (by decide +kernel) (by rw [s_3]; decide) (by decide +kernel) ?_
    refine lv_iload_n hx hb dX3_two_64 rfl (lv_at hl 1 rfl) ?_
    refine lv_iload_n hx hb dX3_two_65 rfl (lv_at hl 2 rfl) ?_
    refine lv_isub hx hb dX3_two_66 ?_
    have hpost : (fun (r : Int32) (u : Unit) => match u with | _ => r = m_X3_two v0 v1 v2) (v1 - v2) () := (show m_X3_two v0 v1 v2 = (v1 - v2) from by unfold m_X3_two; rw [if_neg s_1, if_neg s_2, if_pos s_3]).symm
    exact W.iret (v := (v1 - v2)) hx hb hr (fun t ht hW => ⟨⟨(v1 - v2), (), rfl, hpost, by rw [ht]; exact hP, va_K.moved hW.alike hK, hD⟩, hS.F ht⟩) hS.2.2 dX3_two_67
  by_cases s_4 : v0 = 60
  · skip
    refine lv_lookup (off := 71) (tgt := 72) hx hb dX3_two_1 (by decide +kernel) (by rw [s_4]; decide) (by decide +kernel) ?_
    refine lv_iload_n hx hb dX3_two_72 rfl (lv_at hl 1 rfl) ?_
    refine lv_iload_n hx hb dX3_two_73 rfl (lv_at hl 2 rfl) ?_
    refine lv_icmp_ge (tgt := 81) hx hb dX3_two_74 (by decide +kernel) (fun c_5 => ?_) (fun c_5 => ?_)
    · skip
      refine lv_iconst (v := 0) hx hb dX3_two_81 (by decide +kernel) ?_
      have hpost : (fun (r : Int32) (u : Unit) => match u with | _ => r = m_X3_two v0 v1 v2) 0 () := (show m_X3_two v0 v1 v2 = 0 from by unfold m_X3_two; rw [if_neg s_1, if_neg s_2, if_neg s_3, if_pos s_4, if_pos c_5]).symm
      exact W.iret (v := 0) hx hb hr (fun t ht hW => ⟨⟨0, (), rfl, hpost, by rw [ht]; exact hP, va_K.moved hW.alike hK, hD⟩, hS.F ht⟩) hS.2.2 dX3_two_82
    · skip
      refine lv_iconst (v := 1) hx hb dX3_two_77 (by decide +kernel) ?_
      refine lv_goto (tgt := 82) hx hb dX3_two_78 (by decide +kernel) ?_
      have hpost : (fun (r : Int32) (u : Unit) => match u with | _ => r = m_X3_two v0 v1 v2) 1 () := (show m_X3_two v0 v1 v2 = 1 from by unfold m_X3_two; rw [if_neg s_1, if_neg s_2, if_neg s_3, if_pos s_4, if_neg c_5]).symm
      exact W.iret (v := 1) hx hb hr (fun t ht hW => ⟨⟨1, (), rfl, hpost, by rw [ht]; exact hP, va_K.moved hW.alike hK, hD⟩, hS.F ht⟩) hS.2.2 dX3_two_82
  by_cases s_6 : v0 = 61
  · skip
    refine lv_lookup (off := 82) (tgt := 83) hx hb dX3_two_1 (by decide +kernel) (by rw [s_6]; decide) (by decide +kernel) ?_
    refine lv_iload_n hx hb dX3_two_83 rfl (lv_at hl 1 rfl) ?_
    refine lv_iload_n hx hb dX3_two_84 rfl (lv_at hl 2 rfl) ?_
    refine lv_icmp_ne (tgt := 92) hx hb dX3_two_85 (by decide +kernel) (fun c_7 => ?_) (fun c_7 => ?_)
    · skip
      refine lv_iconst (v := 0) hx hb dX3_two_92 (by decide +kernel) ?_
      have hpost : (fun (r : Int32) (u : Unit) => match u with | _ => r = m_X3_two v0 v1 v2) 0 () := (show m_X3_two v0 v1 v2 = 0 from by unfold m_X3_two; rw [if_neg s_1, if_neg s_2, if_neg s_3, if_neg s_4, if_pos s_6, if_neg c_7]).symm
      exact W.iret (v := 0) hx hb hr (fun t ht hW => ⟨⟨0, (), rfl, hpost, by rw [ht]; exact hP, va_K.moved hW.alike hK, hD⟩, hS.F ht⟩) hS.2.2 dX3_two_93
    · skip
      refine lv_iconst (v := 1) hx hb dX3_two_88 (by decide +kernel) ?_
      refine lv_goto (tgt := 93) hx hb dX3_two_89 (by decide +kernel) ?_
      have hpost : (fun (r : Int32) (u : Unit) => match u with | _ => r = m_X3_two v0 v1 v2) 1 () := (show m_X3_two v0 v1 v2 = 1 from by unfold m_X3_two; rw [if_neg s_1, if_neg s_2, if_neg s_3, if_neg s_4, if_pos s_6, if_pos c_7]).symm
      exact W.iret (v := 1) hx hb hr (fun t ht hW => ⟨⟨1, (), rfl, hpost, by rw [ht]; exact hP, va_K.moved hW.alike hK, hD⟩, hS.F ht⟩) hS.2.2 dX3_two_93
  by_cases s_8 : v0 = 104
  · skip
    refine lv_lookup (off := 93) (tgt := 94) hx hb dX3_two_1 (by decide +kernel) (by rw [s_8]; decide) (by decide +kernel) ?_
    refine lv_iload_n hx hb dX3_two_94 rfl (lv_at hl 1 rfl) ?_
    refine lv_if_eq (tgt := 106) hx hb dX3_two_95 (by decide +kernel) (fun c_9 => ?_) (fun c_9 => ?_)
    · skip
      refine lv_iconst (v := 0) hx hb dX3_two_106 (by decide +kernel) ?_
      have hpost : (fun (r : Int32) (u : Unit) => match u with | _ => r = m_X3_two v0 v1 v2) 0 () := (show m_X3_two v0 v1 v2 = 0 from by unfold m_X3_two; rw [if_neg s_1, if_neg s_2, if_neg s_3, if_neg s_4, if_neg s_6, if_pos s_8, if_pos c_9]).symm
      exact W.iret (v := 0) hx hb hr (fun t ht hW => ⟨⟨0, (), rfl, hpost, by rw [ht]; exact hP, va_K.moved hW.alike hK, hD⟩, hS.F ht⟩) hS.2.2 dX3_two_107
    · skip
      refine lv_iload_n hx hb dX3_two_98 rfl (lv_at hl 2 rfl) ?_
      refine lv_if_eq (tgt := 106) hx hb dX3_two_99 (by decide +kernel) (fun c_10 => ?_) (fun c_10 => ?_)
      · skip
        refine lv_iconst (v := 0) hx hb dX3_two_106 (by decide +kernel) ?_
        have hpost : (fun (r : Int32) (u : Unit) => match u with | _ => r = m_X3_two v0 v1 v2) 0 () := (show m_X3_two v0 v1 v2 = 0 from by unfold m_X3_two; rw [if_neg s_1, if_neg s_2, if_neg s_3, if_neg s_4, if_neg s_6, if_pos s_8, if_neg c_9, if_pos c_10]).symm
        exact W.iret (v := 0) hx hb hr (fun t ht hW => ⟨⟨0, (), rfl, hpost, by rw [ht]; exact hP, va_K.moved hW.alike hK, hD⟩, hS.F ht⟩) hS.2.2 dX3_two_107
      · skip
        refine lv_iconst (v := 1) hx hb dX3_two_102 (by decide +kernel) ?_
        refine lv_goto (tgt := 107) hx hb dX3_two_103 (by decide +kernel) ?_
        have hpost : (fun (r : Int32) (u : Unit) => match u with | _ => r = m_X3_two v0 v1 v2) 1 () := (show m_X3_two v0 v1 v2 = 1 from by unfold m_X3_two; rw [if_neg s_1, if_neg s_2, if_neg s_3, if_neg s_4, if_neg s_6, if_pos s_8, if_neg c_9, if_neg c_10]).symm
        exact W.iret (v := 1) hx hb hr (fun t ht hW => ⟨⟨1, (), rfl, hpost, by rw [ht]; exact hP, va_K.moved hW.alike hK, hD⟩, hS.F ht⟩) hS.2.2 dX3_two_107
  refine lv_lookup (off := 107) (tgt := 108) hx hb dX3_two_1 (by decide +kernel) (by show Op.lookupswitch.offset _ _ _ = _; rw [lv_osw s_1 (by decide +kernel)]; rw [lv_osw s_2 (by decide +kernel)]; rw [lv_osw s_3 (by decide +kernel)]; rw [lv_osw s_4 (by decide +kernel)]; rw [lv_osw s_6 (by decide +kernel)]; rw [lv_osw s_8 (by decide +kernel)]; rfl) (by decide +kernel) ?_
  refine lv_iload_n hx hb dX3_two_108 rfl (lv_at hl 1 rfl) ?_
  refine lv_if_ne (tgt := 116) hx hb dX3_two_109 (by decide +kernel) (fun c_11 => ?_) (fun c_11 => ?_)
  · skip
    refine lv_iconst (v := 1) hx hb dX3_two_116 (by decide +kernel) ?_
    refine lv_goto (tgt := 121) hx hb dX3_two_117 (by decide +kernel) ?_
    have hpost : (fun (r : Int32) (u : Unit) => match u with | _ => r = m_X3_two v0 v1 v2) 1 () := (show m_X3_two v0 v1 v2 = 1 from by unfold m_X3_two; rw [if_neg s_1, if_neg s_2, if_neg s_3, if_neg s_4, if_neg s_6, if_neg s_8, if_neg c_11]).symm
    exact W.iret (v := 1) hx hb hr (fun t ht hW => ⟨⟨1, (), rfl, hpost, by rw [ht]; exact hP, va_K.moved hW.alike hK, hD⟩, hS.F ht⟩) hS.2.2 dX3_two_121
  · skip
    refine lv_iload_n hx hb dX3_two_112 rfl (lv_at hl 2 rfl) ?_
    refine lv_if_eq (tgt := 120) hx hb dX3_two_113 (by decide +kernel) (fun c_12 => ?_) (fun c_12 => ?_)
    · skip
      refine lv_iconst (v := 0) hx hb dX3_two_120 (by decide +kernel) ?_
      have hpost : (fun (r : Int32) (u : Unit) => match u with | _ => r = m_X3_two v0 v1 v2) 0 () := (show m_X3_two v0 v1 v2 = 0 from by unfold m_X3_two; rw [if_neg s_1, if_neg s_2, if_neg s_3, if_neg s_4, if_neg s_6, if_neg s_8, if_pos c_11, if_pos c_12]).symm
      exact W.iret (v := 0) hx hb hr (fun t ht hW => ⟨⟨0, (), rfl, hpost, by rw [ht]; exact hP, va_K.moved hW.alike hK, hD⟩, hS.F ht⟩) hS.2.2 dX3_two_121
    · skip
      refine lv_iconst (v := 1) hx hb dX3_two_116 (by decide +kernel) ?_
      refine lv_goto (tgt := 121) hx hb dX3_two_117 (by decide +kernel) ?_
      have hpost : (fun (r : Int32) (u : Unit) => match u with | _ => r = m_X3_two v0 v1 v2) 1 () := (show m_X3_two v0 v1 v2 = 1 from by unfold m_X3_two; rw [if_neg s_1, if_neg s_2, if_neg s_3, if_neg s_4, if_neg s_6, if_neg s_8, if_pos c_11, if_neg c_12]).symm
      exact W.iret (v := 1) hx hb hr (fun t ht hW => ⟨⟨1, (), rfl, hpost, by rw [ht]; exact hP, va_K.moved hW.alike hK, hD⟩, hS.F ht⟩) hS.2.2 dX3_two_121
/-! the class: small things -/
/-- a shift that fills up with 0 -/
noncomputable def iUsh (x y : Int32) : Int32 := (x.toUInt32 >>> (y.toUInt32 &&& Int32.toUInt32 31)).toInt32
noncomputable def mMax (x y : Int32) : Int32 := if x < y then y else x
noncomputable def mMin (x y : Int32) : Int32 := if y < x then y else x
theorem mMax_1 {a : Nat} (h : 1 ≤ a) (h2 : a < 2 ^ 31) : mMax 1 (nI a) = nI a := by
  unfold mMax
  by_cases c : (1 : Int32) < nI a
  · rw [if_pos c]
  · rw [if_neg c]
    have := nI_lt0 (a := 1) (b := a) (by omega) h2 c
    have e : a = 1 := by omega
    rw [e]; rfl
noncomputable def mBoth (jg pb : Nat) (a b : Int32) : Bool := mHas jg a && mHas pb b
theorem mBoth_1 {jg pb : Nat} {a b : Int32} (h : mBoth jg pb a b = true) : mHas jg a = true := (Bool.and_eq_true_iff.mp h).1
theorem mBoth_2 {jg pb : Nat} {a b : Int32} (h : mBoth jg pb a b = true) : mHas pb b = true := (Bool.and_eq_true_iff.mp h).2
theorem mHas_t2 {k : Nat} {v : Int32} (h0 : ¬ v < 0) (h1 : ¬ nI k ≤ nI (nC v)) : mHas k v = true := by
  have e := nC_eq (Int32.not_lt.mp h0)
  exact decide_eq_true ⟨Int32.not_lt.mp h0, by rw [e]; exact Int32.not_le.mp h1⟩
theorem mHas_f1 {k : Nat} {v : Int32} (h : v < 0) : mHas k v = false := decide_eq_false (fun z => absurd z.1 (Int32.not_le.mpr h))
theorem mHas_f2 {k : Nat} {v : Int32} (h0 : ¬ v < 0) (h1 : nI k ≤ nI (nC v)) : mHas k v = false := by
  have e := nC_eq (Int32.not_lt.mp h0)
  refine decide_eq_false (fun z => ?_)
  have a := z.2
  rw [e] at a
  exact absurd a (Int32.not_lt.mpr h1)
theorem bit_add {g : Nat} {v : Int32} (h : v = 0 ∨ v = 1) : nI g + v = nI (g + nC v) := by
  rcases h with e | e <;> rw [e]
  · exact nI_add g 0
  · exact nI_add g 1
theorem bit_le {v : Int32} (h : v = 0 ∨ v = 1) : nC v ≤ 1 := by rcases h with e | e <;> rw [e] <;> decide
theorem bz3_t {n : Nat} (h : n < 4) : bz (decide (0 ≤ nI n ∧ nI n ≤ 3)) = 1 := by
  rw [decide_eq_true ⟨nI_pos' (by omega), nI_le (a := n) (b := 3) (by omega) (by omega)⟩]; rfl
theorem bz3_f {v : Int32} (h : ¬ (0 ≤ v ∧ v ≤ 3)) : bz (decide (0 ≤ v ∧ v ≤ 3)) = 0 := by rw [decide_eq_false h]; rfl
theorem gFl_in {v : Int32} {f : Nat → Int32} {k i : Nat} (h : i < k) : gFl v f k i = v := if_pos h
theorem cl_le {a b n : Nat} (ha : a < 2 ^ 31) (hb : b < 2 ^ 31) (h : a + b ≤ n) : (nI a).toNatClampNeg + (nI b).toNatClampNeg ≤ n := by rw [nI_clamp ha, nI_clamp hb]; exact h
theorem cpy_nI {f g : Nat → Int32} {a b c : Nat} (ha : a < 2 ^ 31) (hb : b < 2 ^ 31) (hc : c < 2 ^ 31) : va_cpy f g (nI a).toNatClampNeg (nI b).toNatClampNeg (nI c).toNatClampNeg = va_cpy f g a b c := by rw [nI_clamp ha, nI_clamp hb, nI_clamp hc]
theorem g06 {n : Nat} (h : n < 6) : n = 0 ∨ n = 1 ∨ n = 2 ∨ n = 3 ∨ n = 4 ∨ n = 5 := by omega
/-- so many from a place on lie in a sheet of such a length -/
noncomputable def mHolds (len : Nat) (a n : Int32) : Bool := decide (0 ≤ n ∧ 0 ≤ a ∧ a ≤ nI len - n)
theorem mHolds_1 {len : Nat} {a n : Int32} (h : mHolds len a n = true) : a = nI (nC a) := nC_eq (of_decide_eq_true h).2.1
theorem mHolds_2 {len : Nat} {a n : Int32} (h : mHolds len a n = true) : n = nI (nC n) := nC_eq (of_decide_eq_true h).1
theorem mHolds_3 {len : Nat} {a n : Int32} {x y : Nat} (hl : len < 2 ^ 31) (hx : x < 2 ^ 31) (hy : y < 2 ^ 31) (h : mHolds len a n = true) (ha : a = nI x) (hn : n = nI y) : x + y ≤ len := by
  have h2 := (of_decide_eq_true h).2.2
  rw [ha, hn] at h2
  have z : (nI x).toInt ≤ (nI len - nI y).toInt := Int32.le_iff_toInt_le.mp h2
  rw [Int32.toInt_sub, nI_toInt hx, nI_toInt hl, nI_toInt hy, Int.bmod_def] at z
  omega
theorem mHolds_t {len : Nat} {a n : Int32} (h1 : ¬ n < 0) (h2 : ¬ a < 0) (h3 : ¬ nI len - nI (nC n) < nI (nC a)) : mHolds len a n = true := by
  refine decide_eq_true ⟨Int32.not_lt.mp h1, Int32.not_lt.mp h2, ?_⟩
  rw [← nC_eq (Int32.not_lt.mp h1), ← nC_eq (Int32.not_lt.mp h2)] at h3
  exact Int32.not_lt.mp h3
theorem mHolds_f {len : Nat} {a n : Int32} (h : n < 0 ∨ a < 0 ∨ nI len - nI (nC n) < nI (nC a)) : mHolds len a n = false := by
  refine decide_eq_false (fun z => ?_)
  rcases h with e | e | e
  · exact absurd z.1 (Int32.not_le.mpr e)
  · exact absurd z.2.1 (Int32.not_le.mpr e)
  · rw [← nC_eq z.1, ← nC_eq z.2.1] at e
    exact absurd z.2.2 (Int32.not_le.mpr e)
/-! the class's codes as the reference's -/
def lgX (c : Int32) : Prop := (0 ≤ c ∧ c < 10000) ∨ (10000 ≤ c ∧ c < 10006) ∨ c = 20103 ∨ c = 20104 ∨ c = 20105 ∨ c = 20106 ∨ c = 20060 ∨ c = 20061 ∨ c = 20043 ∨ c = 20045 ∨ c = 20042
noncomputable def trX (c : Int32) : Int32 := if c < 10000 then c + 100000 else if c < 20000 then c - 10000 else if c = 20103 then 11 else if c = 20104 then 12 else if c = 20105 then 13 else if c = 20106 then 19 else if c = 20060 then 14 else if c = 20061 then 15 else if c = 20043 then 16 else if c = 20045 then 17 else 18
noncomputable def mFrom (fet : Nat → Nat) (pt : Nat) : Nat := if pt = 0 then 0 else fet (pt - 1)
def mWx (fct : Nat → Int32) (fet : Nat → Nat) : Prop := (∀ pt, pt < 3 → mFrom fet pt ≤ fet pt ∧ fet pt ≤ 160 ∧ vOK 32 (fun i => trX (fct i)) (fet pt - mFrom fet pt) (mFrom fet pt) 0) ∧ ∀ pt, pt < 3 → ∀ k, k < fet pt → lgX (fct k)
noncomputable def mValX (fct : Nat → Int32) (fet : Nat → Nat) (pt : Nat) (na : Nat → Int32) : Int32 := (vRun (fun i => trX (fct i)) na (fet pt - mFrom fet pt) (mFrom fet pt) []).headD 0
theorem mValX_nm {fct : Nat → Int32} {fet : Nat → Nat} {pt : Nat} {na nb : Nat → Int32} (hw : mWx fct fet) (hp : pt < 3) (hab : ∀ i, i < 6 → na i = nb i) : mValX fct fet pt na = mValX fct fet pt nb := by
  unfold mValX
  rw [vRun_eq hab _ _ _ _ (hw.1 pt hp).2.2]
theorem nx_rng {c : Int32} {a b : Nat} (ha : a < 2 ^ 31) (hb : b < 2 ^ 31) (h1 : nI a ≤ c) (h2 : c < nI b) : ∃ k, a ≤ k ∧ k < b ∧ c = nI k := by
  have h0 : 0 ≤ c := by
    have z1 : (nI a).toInt ≤ c.toInt := Int32.le_iff_toInt_le.mp h1
    rw [nI_toInt ha] at z1
    exact Int32.le_iff_toInt_le.mpr (by show (0 : Int) ≤ c.toInt; omega)
  have e := nC_eq h0
  rw [e] at h1 h2
  exact ⟨nC c, nI_le1 ha (nC_31 c) h1, nI_lt1 (nC_31 c) hb h2, e⟩
theorem tX_num {k : Nat} (h : k < 10000) : trX (nI k) = nI (k + 100000) := by
  unfold trX
  have c : nI k < (10000 : Int32) := nI_lt (a := k) (b := 10000) h (by omega)
  rw [if_pos c]
  exact nI_add k 100000
theorem tX_nam {k : Nat} (h : 10000 ≤ k) (h2 : k < 10006) : trX (nI k) = nI (k - 10000) := by
  unfold trX
  have c : ¬ nI k < (10000 : Int32) := nI_nlt (a := k) (b := 10000) h (by omega)
  have c2 : nI k < (20000 : Int32) := nI_lt (a := k) (b := 20000) (by omega) (by omega)
  rw [if_neg c, if_pos c2]
  exact pk_sub (b := 10000) h
theorem neg_c {k : Nat} (h : k < 20000) : ¬ (0 : Int32) ≤ nI k - 20000 := by
  intro z
  have e : (nI k - 20000).toInt = (nI k).toInt - (20000 : Int32).toInt := by
    rw [Int32.toInt_sub]
    have a : (nI k).toInt = (k : Int) := nI_toInt (by omega)
    have b : (20000 : Int32).toInt = 20000 := rfl
    rw [a, b, Int.bmod_def]
    omega
  have a : (nI k).toInt = (k : Int) := nI_toInt (by omega)
  have b : (20000 : Int32).toInt = 20000 := rfl
  have z2 : (0 : Int) ≤ (nI k - 20000).toInt := Int32.le_iff_toInt_le.mp z
  rw [e, a, b] at z2
  omega
/-- what a code of the class is -/
theorem lgX_cases {c : Int32} (h : lgX c) : (∃ k, k < 10000 ∧ c = nI k) ∨ (∃ k, 10000 ≤ k ∧ k < 10006 ∧ c = nI k) ∨ c = 20103 ∨ c = 20104 ∨ c = 20105 ∨ c = 20106 ∨ c = 20060 ∨ c = 20061 ∨ c = 20043 ∨ c = 20045 ∨ c = 20042 := by
  rcases h with h | h | h
  · obtain ⟨k, -, h2, e⟩ := nx_rng (a := 0) (b := 10000) (by omega) (by omega) h.1 h.2
    exact Or.inl ⟨k, h2, e⟩
  · obtain ⟨k, h1, h2, e⟩ := nx_rng (a := 10000) (b := 10006) (by omega) (by omega) h.1 h.2
    exact Or.inr (Or.inl ⟨k, h1, h2, e⟩)
  · exact Or.inr (Or.inr h)
theorem nx_ge {k : Nat} (h : k < 2 ^ 31) (z : (10000 : Int32) ≤ nI k) : 10000 ≤ k := nI_le1 (a := 10000) (b := k) (by omega) h z
theorem tX_push {c : Int32} (h : lgX c) (n : ¬ 0 ≤ c - 20000) : 100000 ≤ trX c ∨ trX c < 11 := by
  rcases lgX_cases h with ⟨k, h1, e⟩ | ⟨k, h1, h2, e⟩ | h
  · rw [e, tX_num h1]; exact Or.inl (nI_le (a := 100000) (by omega) (by omega))
  · rw [e, tX_nam h1 h2]; exact Or.inr (nI_lt (b := 11) (by omega) (by omega))
  · exfalso
    rcases h with e | e | e | e | e | e | e | e | e <;> subst e <;> exact n (by decide +kernel)
theorem tX_nm {c : Int32} (h : lgX c) (h1 : 10000 ≤ c) (n : ¬ 0 ≤ c - 20000) : 0 ≤ c - 10000 ∧ c - 10000 < 6 := by
  rcases lgX_cases h with ⟨k, h2, e⟩ | ⟨k, h2, h3, e⟩ | h
  · subst e; exact absurd (nx_ge (by omega) h1) (by omega)
  · subst e
    have e2 : nI k - 10000 = nI (k - 10000) := pk_sub (b := 10000) h2
    rw [e2]
    exact ⟨nI_pos' (by omega), nI_lt (b := 6) (by omega) (by omega)⟩
  · exfalso
    rcases h with e | e | e | e | e | e | e | e | e <;> subst e <;> exact n (by decide +kernel)
theorem tX_n {c : Int32} {na : Nat → Int32} {L : List Int32} (h : lgX c) (h1 : 10000 ≤ c) (n : ¬ 0 ≤ c - 20000) : vStep na (trX c) L = na (nC (c - 10000)) :: L := by
  rcases lgX_cases h with ⟨k, h2, e⟩ | ⟨k, h2, h3, e⟩ | h
  · subst e; exact absurd (nx_ge (by omega) h1) (by omega)
  · subst e
    have e2 : nI k - 10000 = nI (k - 10000) := pk_sub (b := 10000) h2
    rw [tX_nam h2 h3, e2]
    exact vStep_n (nI_lt (b := 11) (by omega) (by omega))
  · exfalso
    rcases h with e | e | e | e | e | e | e | e | e <;> subst e <;> exact n (by decide +kernel)
theorem tX_c {c : Int32} {na : Nat → Int32} {L : List Int32} (h : lgX c) (h1 : ¬ 10000 ≤ c) : vStep na (trX c) L = c :: L := by
  rcases lgX_cases h with ⟨k, h2, e⟩ | ⟨k, h2, h3, e⟩ | h
  · subst e
    rw [tX_num h2, vStep_c (nI_le (a := 100000) (by omega) (by omega))]
    have e2 : nI (k + 100000) - 100000 = nI (k + 100000 - 100000) := pk_sub (b := 100000) (by omega)
    rw [e2, Nat.add_sub_cancel]
  · subst e; exact absurd (nI_le (a := 10000) h2 (by omega)) h1
  · exfalso
    rcases h with e | e | e | e | e | e | e | e | e <;> subst e <;> exact h1 (by decide +kernel)
theorem csub {c k : Int32} (h : c - 20000 = k) : c = k + 20000 := by rw [← h, Int32.sub_add_cancel]
theorem tX_un {c : Int32} (h : c - 20000 = 105 ∨ c - 20000 = 106) : trX c = 13 ∨ trX c = 19 := by
  rcases h with e | e
  · rw [csub e]; exact Or.inl (by decide +kernel)
  · rw [csub e]; exact Or.inr (by decide +kernel)
theorem tX_one {c : Int32} {na : Nat → Int32} {L : List Int32} {a : Int32} (h : c - 20000 = 105 ∨ c - 20000 = 106) : vStep na (trX c) (a :: L) = m_X3_one (c - 20000) a :: L := by
  rcases h with e | e
  · have e2 : trX c = 13 := by rw [csub e]; decide
    have e3 : m_X3_one 105 a = if a = 0 then 1 else 0 := by
      unfold m_X3_one
      rw [if_neg (show ¬ (105 : Int32) = 106 by decide +kernel)]
    rw [e2, e, vStep_z rfl, e3]
  · have e2 : trX c = 19 := by rw [csub e]; decide
    rw [e2, e, vStep_m rfl]
    unfold m_X3_one
    rw [if_pos rfl]
theorem tX_bin {c : Int32} (h : lgX c) (hp : 0 ≤ c - 20000) (n1 : ¬ c - 20000 = 105) (n2 : ¬ c - 20000 = 106) : ¬ 100000 ≤ trX c ∧ 11 ≤ trX c ∧ ¬ trX c = 13 ∧ ¬ trX c = 19 ∧ ∀ a b, m_X3_two (c - 20000) a b = m_X6_two (trX c) a b := by
  rcases lgX_cases h with ⟨k, h2, e⟩ | ⟨k, h2, h3, e⟩ | e | e | e | e | e | e | e | e | e
  · subst e; exact absurd hp (neg_c (by omega))
  · subst e; exact absurd hp (neg_c (by omega))
  · subst e; refine ⟨by decide, by decide, by decide, by decide, fun a b => ?_⟩
    show m_X3_two 103 a b = m_X6_two 11 a b
    unfold m_X3_two m_X6_two
    simp
  · subst e; refine ⟨by decide, by decide, by decide, by decide, fun a b => ?_⟩
    show m_X3_two 104 a b = m_X6_two 12 a b
    unfold m_X3_two m_X6_two
    simp
  · subst e; exact absurd (by decide +kernel) n1
  · subst e; exact absurd (by decide +kernel) n2
  · subst e; refine ⟨by decide, by decide, by decide, by decide, fun a b => ?_⟩
    show m_X3_two 60 a b = m_X6_two 14 a b
    unfold m_X3_two m_X6_two
    simp
  · subst e; refine ⟨by decide, by decide, by decide, by decide, fun a b => ?_⟩
    show m_X3_two 61 a b = m_X6_two 15 a b
    unfold m_X3_two m_X6_two
    simp
  · subst e; refine ⟨by decide, by decide, by decide, by decide, fun a b => ?_⟩
    show m_X3_two 43 a b = m_X6_two 16 a b
    unfold m_X3_two m_X6_two
    simp
  · subst e; refine ⟨by decide, by decide, by decide, by decide, fun a b => ?_⟩
    show m_X3_two 45 a b = m_X6_two 17 a b
    unfold m_X3_two m_X6_two
    simp
  · subst e; refine ⟨by decide, by decide, by decide, by decide, fun a b => ?_⟩
    show m_X3_two 42 a b = m_X6_two 18 a b
    unfold m_X3_two m_X6_two
    simp
