noncomputable def m_X6_within (v0 : Int32) (v1 : Int32) (v2 : Int32) : Int32 := if v1 ≤ v0 then (if v0 ≤ v2 then v0 else v2) else v1
abbrev q_X6_within (G : gG) (v0 : Int32) (v1 : Int32) (v2 : Int32) (A : Nat → Prop) : Array Value → State → Outcome → State → Prop := va_Qi (fun (r : Int32) (u : Unit) => match u with | _ => r = m_X6_within v0 v1 v2) (fun (u : Unit) t => match u with | _ => va_P G.1 vwCl [] t.heap ∧ gK G t ∧ va_D A []) A
set_option maxHeartbeats 4000000 in
set_option maxRecDepth 100000 in
theorem c_X6_within (l : Launch) (G : gG) (v0 : Int32) (v1 : Int32) (v2 : Int32) (sz : Nat) : Met l yX6_within wsX6_within ({ frames := 0, cells := 0, slots := 0, locals := 0 }) (gPre G [.int v0, .int v1, .int v2] [] sz) (q_X6_within G v0 v1 v2 (va_A [] sz)) 0 0 (va_A [] sz) := by
  refine Met.ofW (cc := cX6_within) (maxL := 3) (ret := (some .int)) (by decide +kernel) rfl ?_
  intro p e s m args below meth c s₁ B hml hv
  obtain ⟨rfl, hsz, hP, hK, hD0⟩ := hv
  have hx := B.exec
  have hb := B.bytes
  have hr := B.returns
  have hts := atoms_spec (ws := wsX6_within) B.pre
  have hown : s.vm.findClass RX6 = some m.cls := findClass_of_methodNamed B.named
  have hlocks := B.notSynchronized
  subst hsz
  have hD := hD0.self (sz := s.heap.size)
  generalize hAe : va_A [] s.heap.size = A at hD ⊢
  have hA : ∀ q : Nat, s.heap.size ≤ q → A q := fun q h => by rw [← hAe]; exact Or.inr h
  have hS : va_S A s.heap s.heap [] := va_S.rf
  have hz9 : gPD G A [] s.heap := ⟨hP, hD⟩
  have hP := hz9.1
  have hD := hz9.2
  have hl := lv_entry ([.int v0, .int v1, .int v2]) (n := 3) (Nat.le_of_ble_eq_true rfl)
  rw [lg_entry_eq]
  generalize (lg_sl ([.int v0, .int v1, .int v2]) ++ List.replicate (3 - (lg_sl ([.int v0, .int v1, .int v2])).length) Slot.unset).toArray = ls at hl ⊢
  have hl : lv_has ls 3 [zI 0 v0, zI 1 v1, zI 2 v2] := hl
  refine lv_iload_n hx hb dX6_within_0 rfl (lv_at hl 0 rfl) ?_
  refine lv_iload_n hx hb dX6_within_1 rfl (lv_at hl 1 rfl) ?_
  refine lv_icmp_ge (tgt := 9) hx hb dX6_within_2 (by decide +kernel) (fun c_1 => ?_) (fun c_1 => ?_)
  · skip
    refine lv_iload_n hx hb dX6_within_9 rfl (lv_at hl 0 rfl) ?_
    refine lv_iload_n hx hb dX6_within_10 rfl (lv_at hl 2 rfl) ?_
    refine lv_icmp_le (tgt := 18) hx hb dX6_within_11 (by decide +kernel) (fun c_2 => ?_) (fun c_2 => ?_)
    · skip
      refine lv_iload_n hx hb dX6_within_18 rfl (lv_at hl 0 rfl) ?_
      have hpost : (fun (r : Int32) (u : Unit) => match u with | _ => r = m_X6_within v0 v1 v2) v0 () := (show m_X6_within v0 v1 v2 = v0 from by unfold m_X6_within; rw [if_pos c_1, if_pos c_2]).symm
      exact W.iret (v := v0) hx hb hr (fun t ht hW => ⟨⟨v0, (), rfl, hpost, by rw [ht]; exact hP, va_K.moved hW.alike hK, hD⟩, hS.F ht⟩) hS.2.2 dX6_within_19
    · skip
      refine lv_iload_n hx hb dX6_within_14 rfl (lv_at hl 2 rfl) ?_
      refine lv_goto (tgt := 19) hx hb dX6_within_15 (by decide +kernel) ?_
      have hpost : (fun (r : Int32) (u : Unit) => match u with | _ => r = m_X6_within v0 v1 v2) v2 () := (show m_X6_within v0 v1 v2 = v2 from by unfold m_X6_within; rw [if_pos c_1, if_neg c_2]).symm
      exact W.iret (v := v2) hx hb hr (fun t ht hW => ⟨⟨v2, (), rfl, hpost, by rw [ht]; exact hP, va_K.moved hW.alike hK, hD⟩, hS.F ht⟩) hS.2.2 dX6_within_19
  · skip
    refine lv_iload_n hx hb dX6_within_5 rfl (lv_at hl 1 rfl) ?_
    refine lv_goto (tgt := 19) hx hb dX6_within_6 (by decide +kernel) ?_
    have hpost : (fun (r : Int32) (u : Unit) => match u with | _ => r = m_X6_within v0 v1 v2) v1 () := (show m_X6_within v0 v1 v2 = v1 from by unfold m_X6_within; rw [if_neg c_1]).symm
    exact W.iret (v := v1) hx hb hr (fun t ht hW => ⟨⟨v1, (), rfl, hpost, by rw [ht]; exact hP, va_K.moved hW.alike hK, hD⟩, hS.F ht⟩) hS.2.2 dX6_within_19
noncomputable def m_X6_isUnder (v0 : Int32) (v1 : Int32) : Int32 := if v1 = 0 then 1 else (if v0 = v1 then 1 else (if v1 = 1 then (if v0 = 3 then 1 else (if v1 = 2 then (if v0 = 4 then 1 else 0) else 0)) else (if v1 = 2 then (if v0 = 4 then 1 else 0) else 0)))
abbrev q_X6_isUnder (G : gG) (v0 : Int32) (v1 : Int32) (A : Nat → Prop) : Array Value → State → Outcome → State → Prop := va_Qi (fun (r : Int32) (u : Unit) => match u with | _ => r = m_X6_isUnder v0 v1) (fun (u : Unit) t => match u with | _ => va_P G.1 vwCl [] t.heap ∧ gK G t ∧ va_D A []) A
set_option maxHeartbeats 4000000 in
set_option maxRecDepth 100000 in
theorem c_X6_isUnder (l : Launch) (G : gG) (v0 : Int32) (v1 : Int32) (sz : Nat) : Met l yX6_isUnder wsX6_isUnder ({ frames := 0, cells := 0, slots := 0, locals := 0 }) (gPre G [.int v0, .int v1] [] sz) (q_X6_isUnder G v0 v1 (va_A [] sz)) 0 0 (va_A [] sz) := by
  refine Met.ofW (cc := cX6_isUnder) (maxL := 2) (ret := (some .boolean)) (by decide +kernel) rfl ?_
  intro p e s m args below meth c s₁ B hml hv
  obtain ⟨rfl, hsz, hP, hK, hD0⟩ := hv
  have hx := B.exec
  have hb := B.bytes
  have hr := B.returns
  have hts := atoms_spec (ws := wsX6_isUnder) B.pre
  have hown : s.vm.findClass RX6 = some m.cls := findClass_of_methodNamed B.named
  have hlocks := B.notSynchronized
  subst hsz
  have hD := hD0.self (sz := s.heap.size)
  generalize hAe : va_A [] s.heap.size = A at hD ⊢
  have hA : ∀ q : Nat, s.heap.size ≤ q → A q := fun q h => by rw [← hAe]; exact Or.inr h
  have hS : va_S A s.heap s.heap [] := va_S.rf
  have hz9 : gPD G A [] s.heap := ⟨hP, hD⟩
  have hP := hz9.1
  have hD := hz9.2
  have hl := lv_entry ([.int v0, .int v1]) (n := 2) (Nat.le_of_ble_eq_true rfl)
  rw [lg_entry_eq]
  generalize (lg_sl ([.int v0, .int v1]) ++ List.replicate (2 - (lg_sl ([.int v0, .int v1])).length) Slot.unset).toArray = ls at hl ⊢
  have hl : lv_has ls 2 [zI 0 v0, zI 1 v1] := hl
  refine lv_iload_n hx hb dX6_isUnder_0 rfl (lv_at hl 1 rfl) ?_
  refine lv_if_eq (tgt := 29) hx hb dX6_isUnder_1 (by decide +kernel) (fun c_1 => ?_) (fun c_1 => ?_)
  · skip
    refine lv_iconst (v := 1) hx hb dX6_isUnder_29 (by decide +kernel) ?_
    refine lv_goto (tgt := 34) hx hb dX6_isUnder_30 (by decide +kernel) ?_
    have hpost : (fun (r : Int32) (u : Unit) => match u with | _ => r = m_X6_isUnder v0 v1) 1 () := (show m_X6_isUnder v0 v1 = 1 from by unfold m_X6_isUnder; rw [if_pos c_1]).symm
    exact W.zret (v := 1) hx hb hr (rfl) (fun t ht hW => ⟨⟨1, (), rfl, hpost, by rw [ht]; exact hP, va_K.moved hW.alike hK, hD⟩, hS.F ht⟩) hS.2.2 dX6_isUnder_34
  · skip
    refine lv_iload_n hx hb dX6_isUnder_4 rfl (lv_at hl 0 rfl) ?_
    refine lv_iload_n hx hb dX6_isUnder_5 rfl (lv_at hl 1 rfl) ?_
    refine lv_icmp_eq (tgt := 29) hx hb dX6_isUnder_6 (by decide +kernel) (fun c_2 => ?_) (fun c_2 => ?_)
    · skip
      refine lv_iconst (v := 1) hx hb dX6_isUnder_29 (by decide +kernel) ?_
      refine lv_goto (tgt := 34) hx hb dX6_isUnder_30 (by decide +kernel) ?_
      have hpost : (fun (r : Int32) (u : Unit) => match u with | _ => r = m_X6_isUnder v0 v1) 1 () := (show m_X6_isUnder v0 v1 = 1 from by unfold m_X6_isUnder; rw [if_neg c_1, if_pos c_2]).symm
      exact W.zret (v := 1) hx hb hr (rfl) (fun t ht hW => ⟨⟨1, (), rfl, hpost, by rw [ht]; exact hP, va_K.moved hW.alike hK, hD⟩, hS.F ht⟩) hS.2.2 dX6_isUnder_34
    · skip
      refine lv_iload_n hx hb dX6_isUnder_9 rfl (lv_at hl 1 rfl) ?_
      refine lv_iconst (v := 1) hx hb dX6_isUnder_10 (by decide +kernel) ?_
      refine lv_icmp_ne (tgt := 19) hx hb dX6_isUnder_11 (by decide +kernel) (fun c_3 => ?_) (fun c_3 => ?_)
      · skip
        refine lv_iload_n hx hb dX6_isUnder_19 rfl (lv_at hl 1 rfl) ?_
        refine lv_iconst (v := 2) hx hb dX6_isUnder_20 (by decide +kernel) ?_
        refine lv_icmp_ne (tgt := 33) hx hb dX6_isUnder_21 (by decide +kernel) (fun c_4 => ?_) (fun c_4 => ?_)
        · skip
          refine lv_iconst (v := 0) hx hb dX6_isUnder_33 (by decide +kernel) ?_
          have hpost : (fun (r : Int32) (u : Unit) => match u with | _ => r = m_X6_isUnder v0 v1) 0 () := (show m_X6_isUnder v0 v1 = 0 from by unfold m_X6_isUnder; rw [if_neg c_1, if_neg c_2, if_neg c_3, if_neg c_4]).symm
          exact W.zret (v := 0) hx hb hr (rfl) (fun t ht hW => ⟨⟨0, (), rfl, hpost, by rw [ht]; exact hP, va_K.moved hW.alike hK, hD⟩, hS.F ht⟩) hS.2.2 dX6_isUnder_34
        · skip
          refine lv_iload_n hx hb dX6_isUnder_24 rfl (lv_at hl 0 rfl) ?_
          refine lv_iconst (v := 4) hx hb dX6_isUnder_25 (by decide +kernel) ?_
          refine lv_icmp_ne (tgt := 33) hx hb dX6_isUnder_26 (by decide +kernel) (fun c_5 => ?_) (fun c_5 => ?_)
          · skip
            refine lv_iconst (v := 0) hx hb dX6_isUnder_33 (by decide +kernel) ?_
            have hpost : (fun (r : Int32) (u : Unit) => match u with | _ => r = m_X6_isUnder v0 v1) 0 () := (show m_X6_isUnder v0 v1 = 0 from by unfold m_X6_isUnder; rw [if_neg c_1, if_neg c_2, if_neg c_3, if_pos c_4, if_neg c_5]).symm
            exact W.zret (v := 0) hx hb hr (rfl) (fun t ht hW => ⟨⟨0, (), rfl, hpost, by rw [ht]; exact hP, va_K.moved hW.alike hK, hD⟩, hS.F ht⟩) hS.2.2 dX6_isUnder_34
          · skip
            refine lv_iconst (v := 1) hx hb dX6_isUnder_29 (by decide +kernel) ?_
            refine lv_goto (tgt := 34) hx hb dX6_isUnder_30 (by decide +kernel) ?_
            have hpost : (fun (r : Int32) (u : Unit) => match u with | _ => r = m_X6_isUnder v0 v1) 1 () := (show m_X6_isUnder v0 v1 = 1 from by unfold m_X6_isUnder; rw [if_neg c_1, if_neg c_2, if_neg c_3, if_pos c_4, if_pos c_5]).symm
            exact W.zret (v := 1) hx hb hr (rfl) (fun t ht hW => ⟨⟨1, (), rfl, hpost, by rw [ht]; exact hP, va_K.moved hW.alike hK, hD⟩, hS.F ht⟩) hS.2.2 dX6_isUnder_34
      · skip
        refine lv_iload_n hx hb dX6_isUnder_14 rfl (lv_at hl 0 rfl) ?_
        refine lv_iconst (v := 3) hx hb dX6_isUnder_15 (by decide +kernel) ?_
        refine lv_icmp_eq (tgt := 29) hx hb dX6_isUnder_16 (by decide +kernel) (fun c_6 => ?_) (fun c_6 => ?_)
        · skip
          refine lv_iconst (v := 1) hx hb dX6_isUnder_29 (by decide +kernel) ?_
          refine lv_goto (tgt := 34) hx hb dX6_isUnder_30 (by decide +kernel) ?_
          have hpost : (fun (r : Int32) (u : Unit) => match u with | _ => r = m_X6_isUnder v0 v1) 1 () := (show m_X6_isUnder v0 v1 = 1 from by unfold m_X6_isUnder; rw [if_neg c_1, if_neg c_2, if_pos c_3, if_pos c_6]).symm
          exact W.zret (v := 1) hx hb hr (rfl) (fun t ht hW => ⟨⟨1, (), rfl, hpost, by rw [ht]; exact hP, va_K.moved hW.alike hK, hD⟩, hS.F ht⟩) hS.2.2 dX6_isUnder_34
        · skip
          refine lv_iload_n hx hb dX6_isUnder_19 rfl (lv_at hl 1 rfl) ?_
          refine lv_iconst (v := 2) hx hb dX6_isUnder_20 (by decide +kernel) ?_
          refine lv_icmp_ne (tgt := 33) hx hb dX6_isUnder_21 (by decide +kernel) (fun c_7 => ?_) (fun c_7 => ?_)
          · skip
            refine lv_iconst (v := 0) hx hb dX6_isUnder_33 (by decide +kernel) ?_
            have hpost : (fun (r : Int32) (u : Unit) => match u with | _ => r = m_X6_isUnder v0 v1) 0 () := (show m_X6_isUnder v0 v1 = 0 from by unfold m_X6_isUnder; rw [if_neg c_1, if_neg c_2, if_pos c_3, if_neg c_6, if_neg c_7]).symm
            exact W.zret (v := 0) hx hb hr (rfl) (fun t ht hW => ⟨⟨0, (), rfl, hpost, by rw [ht]; exact hP, va_K.moved hW.alike hK, hD⟩, hS.F ht⟩) hS.2.2 dX6_isUnder_34
          · skip
            refine lv_iload_n hx hb dX6_isUnder_24 rfl (lv_at hl 0 rfl) ?_
            refine lv_iconst (v := 4) hx hb dX6_isUnder_25 (by decide +kernel) ?_
            refine lv_icmp_ne (tgt := 33) hx hb dX6_isUnder_26 (by decide +kernel) (fun c_8 => ?_) (fun c_8 => ?_)
            · skip
              refine lv_iconst (v := 0) hx hb dX6_isUnder_33 (by decide +kernel) ?_
              have hpost : (fun (r : Int32) (u : Unit) => match u with | _ => r = m_X6_isUnder v0 v1) 0 () := (show m_X6_isUnder v0 v1 = 0 from by unfold m_X6_isUnder; rw [if_neg c_1, if_neg c_2, if_pos c_3, if_neg c_6, if_pos c_7, if_neg c_8]).symm
              exact W.zret (v := 0) hx hb hr (rfl) (fun t ht hW => ⟨⟨0, (), rfl, hpost, by rw [ht]; exact hP, va_K.moved hW.alike hK, hD⟩, hS.F ht⟩) hS.2.2 dX6_isUnder_34
            · skip
              refine lv_iconst (v := 1) hx hb dX6_isUnder_29 (by decide +kernel) ?_
              refine lv_goto (tgt := 34) hx hb dX6_isUnder_30 (by decide +kernel) ?_
              have hpost : (fun (r : Int32) (u : Unit) => match u with | _ => r = m_X6_isUnder v0 v1) 1 () := (show m_X6_isUnder v0 v1 = 1 from by unfold m_X6_isUnder; rw [if_neg c_1, if_neg c_2, if_pos c_3, if_neg c_6, if_pos c_7, if_pos c_8]).symm
              exact W.zret (v := 1) hx hb hr (rfl) (fun t ht hW => ⟨⟨1, (), rfl, hpost, by rw [ht]; exact hP, va_K.moved hW.alike hK, hD⟩, hS.F ht⟩) hS.2.2 dX6_isUnder_34
noncomputable def m_X6_two (v0 : Int32) (v1 : Int32) (v2 : Int32) : Int32 := if v0 = 11 then (if v1 = 0 then (if v2 = 0 then 0 else 1) else 1) else (if v0 = 12 then (if v1 = 0 then 0 else (if v2 = 0 then 0 else 1)) else (if v0 = 13 then v1 * v2 else (if v0 = 14 then (if v2 ≤ v1 then 0 else 1) else (if v0 = 15 then (if v1 = v2 then 1 else 0) else (if v0 = 16 then v1 + v2 else (if v0 = 17 then v1 - v2 else v1 * v2))))))
abbrev q_X6_two (G : gG) (v0 : Int32) (v1 : Int32) (v2 : Int32) (A : Nat → Prop) : Array Value → State → Outcome → State → Prop := va_Qi (fun (r : Int32) (u : Unit) => match u with | _ => r = m_X6_two v0 v1 v2) (fun (u : Unit) t => match u with | _ => va_P G.1 vwCl [] t.heap ∧ gK G t ∧ va_D A []) A
set_option maxHeartbeats 4000000 in
set_option maxRecDepth 100000 in
theorem c_X6_two (l : Launch) (G : gG) (v0 : Int32) (v1 : Int32) (v2 : Int32) (sz : Nat) : Met l yX6_two wsX6_two ({ frames := 0, cells := 0, slots := 0, locals := 0 }) (gPre G [.int v0, .int v1, .int v2] [] sz) (q_X6_two G v0 v1 v2 (va_A [] sz)) 0 0 (va_A [] sz) := by
  refine Met.ofW (cc := cX6_two) (maxL := 3) (ret := (some .int)) (by decide +kernel) rfl ?_
  intro p e s m args below meth c s₁ B hml hv
  obtain ⟨rfl, hsz, hP, hK, hD0⟩ := hv
  have hx := B.exec
  have hb := B.bytes
  have hr := B.returns
  have hts := atoms_spec (ws := wsX6_two) B.pre
  have hown : s.vm.findClass RX6 = some m.cls := findClass_of_methodNamed B.named
  have hlocks := B.notSynchronized
  subst hsz
  have hD := hD0.self (sz := s.heap.size)
  generalize hAe : va_A [] s.heap.size = A at hD ⊢
  have hA : ∀ q : Nat, s.heap.size ≤ q → A q := fun q h => by rw [← hAe]; exact Or.inr h
  have hS : va_S A s.heap s.heap [] := va_S.rf
  have hz9 : gPD G A [] s.heap := ⟨hP, hD⟩
  have hP := hz9.1
  have hD := hz9.2
  have hl := lv_entry ([.int v0, .int v1, .int v2]) (n := 3) (Nat.le_of_ble_eq_true rfl)
  rw [lg_entry_eq]
  generalize (lg_sl ([.int v0, .int v1, .int v2]) ++ List.replicate (3 - (lg_sl ([.int v0, .int v1, .int v2])).length) Slot.unset).toArray = ls at hl ⊢
  have hl : lv_has ls 3 [zI 0 v0, zI 1 v1, zI 2 v2] := hl
  refine lv_iload_n hx hb dX6_two_0 rfl (lv_at hl 0 rfl) ?_
  by_cases s_1 : v0 = 11
  · skip
    refine lv_tableIn (off := 43) (tgt := 44) hx hb dX6_two_1 (by rw [s_1]; decide) (by rw [s_1]; decide) (by rw [s_1]; decide) (by decide +kernel) ?_
    refine lv_iload_n hx hb dX6_two_44 rfl (lv_at hl 1 rfl) ?_
    refine lv_if_ne (tgt := 52) hx hb dX6_two_45 (by decide +kernel) (fun c_2 => ?_) (fun c_2 => ?_)
    · skip
      refine lv_iconst (v := 1) hx hb dX6_two_52 (by decide +kernel) ?_
      refine lv_goto (tgt := 57) hx hb dX6_two_53 (by decide +kernel) ?_
      have hpost : (fun (r : Int32) (u : Unit) => match u with | _ => r = m_X6_two v0 v1 v2) 1 () := (show m_X6_two v0 v1 v2 = 1 from by unfold m_X6_two; rw [if_pos s_1, if_neg c_2]).symm
      exact W.iret (v := 1) hx hb hr (fun t ht hW => ⟨⟨1, (), rfl, hpost, by rw [ht]; exact hP, va_K.moved hW.alike hK, hD⟩, hS.F ht⟩) hS.2.2 dX6_two_57
    · skip
      refine lv_iload_n hx hb dX6_two_48 rfl (lv_at hl 2 rfl) ?_
      refine lv_if_eq (tgt := 56) hx hb dX6_two_49 (by decide +kernel) (fun c_3 => ?_) (fun c_3 => ?_)
      · skip
        refine lv_iconst (v := 0) hx hb dX6_two_56 (by decide +kernel) ?_
        have hpost : (fun (r : Int32) (u : Unit) => match u with | _ => r = m_X6_two v0 v1 v2) 0 () := (show m_X6_two v0 v1 v2 = 0 from by unfold m_X6_two; rw [if_pos s_1, if_pos c_2, if_pos c_3]).symm
        exact W.iret (v := 0) hx hb hr (fun t ht hW => ⟨⟨0, (), rfl, hpost, by rw [ht]; exact hP, va_K.moved hW.alike hK, hD⟩, hS.F ht⟩) hS.2.2 dX6_two_57
      · skip
        refine lv_iconst (v := 1) hx hb dX6_two_52 (by decide +kernel) ?_
        refine lv_goto (tgt := 57) hx hb dX6_two_53 (by decide +kernel) ?_
        have hpost : (fun (r : Int32) (u : Unit) => match u with | _ => r = m_X6_two v0 v1 v2) 1 () := (show m_X6_two v0 v1 v2 = 1 from by unfold m_X6_two; rw [if_pos s_1, if_pos c_2, if_neg c_3]).symm
        exact W.iret (v := 1) hx hb hr (fun t ht hW => ⟨⟨1, (), rfl, hpost, by rw [ht]; exact hP, va_K.moved hW.alike hK, hD⟩, hS.F ht⟩) hS.2.2 dX6_two_57
  by_cases s_4 : v0 = 12
  · skip
    refine lv_tableIn (off := 57) (tgt := 58) hx hb dX6_two_1 (by rw [s_4]; decide) (by rw [s_4]; decide) (by rw [s_4]; decide) (by decide +kernel) ?_
    refine lv_iload_n hx hb dX6_two_58 rfl (lv_at hl 1 rfl) ?_
    refine lv_if_eq (tgt := 70) hx hb dX6_two_59 (by decide +kernel) (fun c_5 => ?_) (fun c_5 => ?_)
    · skip
      refine lv_iconst (v := 0) hx hb dX6_two_70 (by decide +kernel) ?_
      have hpost : (fun (r : Int32) (u : Unit) => match u with | _ => r = m_X6_two v0 v1 v2) 0 () := (show m_X6_two v0 v1 v2 = 0 from by unfold m_X6_two; rw [if_neg s_1, if_pos s_4, if_pos c_5]).symm
      exact W.iret (v := 0) hx hb hr (fun t ht hW => ⟨⟨0, (), rfl, hpost, by rw [ht]; exact hP, va_K.moved hW.alike hK, hD⟩, hS.F ht⟩) hS.2.2 dX6_two_71
    · skip
      refine lv_iload_n hx hb dX6_two_62 rfl (lv_at hl 2 rfl) ?_
      refine lv_if_eq (tgt := 70) hx hb dX6_two_63 (by decide +kernel) (fun c_6 => ?_) (fun c_6 => ?_)
      · skip
        refine lv_iconst (v := 0) hx hb dX6_two_70 (by decide +kernel) ?_
        have hpost : (fun (r : Int32) (u : Unit) => match u with | _ => r = m_X6_two v0 v1 v2) 0 () := (show m_X6_two v0 v1 v2 = 0 from by unfold m_X6_two; rw [if_neg s_1, if_pos s_4, if_neg c_5, if_pos c_6]).symm
        exact W.iret (v := 0) hx hb hr (fun t ht hW => ⟨⟨0, (), rfl, hpost, by rw [ht]; exact hP, va_K.moved hW.alike hK, hD⟩, hS.F ht⟩) hS.2.2 dX6_two_71
      · skip
        refine lv_iconst (v := 1) hx hb dX6_two_66 (by decide +kernel) ?_
        refine lv_goto (tgt := 71) hx hb dX6_two_67 (by decide +kernel) ?_
        have hpost : (fun (r : Int32) (u : Unit) => match u with | _ => r = m_X6_two v0 v1 v2) 1 () := (show m_X6_two v0 v1 v2 = 1 from by unfold m_X6_two; rw [if_neg s_1, if_pos s_4, if_neg c_5, if_neg c_6]).symm
        exact W.iret (v := 1) hx hb hr (fun t ht hW => ⟨⟨1, (), rfl, hpost, by rw [ht]; exact hP, va_K.moved hW.alike hK, hD⟩, hS.F ht⟩) hS.2.2 dX6_two_71
  by_cases s_7 : v0 = 13
  · skip
    refine lv_tableIn (off := 101) (tgt := 102) hx hb dX6_two_1 (by rw [s_7]; decide) (by rw [s_7]; decide) (by rw [s_7]; decide) (by decide +kernel) ?_
    refine lv_iload_n hx hb dX6_two_102 rfl (lv_at hl 1 rfl) ?_
    refine lv_iload_n hx hb dX6_two_103 rfl (lv_at hl 2 rfl) ?_
    refine lv_imul hx hb dX6_two_104 ?_
    have hpost : (fun (r : Int32) (u : Unit) => match u with | _ => r = m_X6_two v0 v1 v2) (v1 * v2) () := (show m_X6_two v0 v1 v2 = (v1 * v2) from by unfold m_X6_two; rw [if_neg s_1, if_neg s_4, if_pos s_7]).symm
    exact W.iret (v := (v1 * v2)) hx hb hr (fun t ht hW => ⟨⟨(v1 * v2), (), rfl, hpost, by rw [ht]; exact hP, va_K.moved hW.alike hK, hD⟩, hS.F ht⟩) hS.2.2 dX6_two_105
  by_cases s_8 : v0 = 14
  · skip
    refine lv_tableIn (off := 71) (tgt := 72) hx hb dX6_two_1 (by rw [s_8]; decide) (by rw [s_8]; decide) (by rw [s_8]; decide) (by decide +kernel) ?_
    refine lv_iload_n hx hb dX6_two_72 rfl (lv_at hl 1 rfl) ?_
    refine lv_iload_n hx hb dX6_two_73 rfl (lv_at hl 2 rfl) ?_
    refine lv_icmp_ge (tgt := 81) hx hb dX6_two_74 (by decide +kernel) (fun c_9 => ?_) (fun c_9 => ?_)
    · skip
      refine lv_iconst (v := 0) hx hb dX6_two_81 (by decide +kernel) ?_
      have hpost : (fun (r : Int32) (u : Unit) => match u with | _ => r = m_X6_two v0 v1 v2) 0 () := (show m_X6_two v0 v1 v2 = 0 from by unfold m_X6_two; rw [if_neg s_1, if_neg s_4, if_neg s_7, if_pos s_8, if_pos c_9]).symm
      exact W.iret (v := 0) hx hb hr (fun t ht hW => ⟨⟨0, (), rfl, hpost, by rw [ht]; exact hP, va_K.moved hW.alike hK, hD⟩, hS.F ht⟩) hS.2.2 dX6_two_82
    · skip
      refine lv_iconst (v := 1) hx hb dX6_two_77 (by decide +kernel) ?_
      refine lv_goto (tgt := 82) hx hb dX6_two_78 (by decide +kernel) ?_
      have hpost : (fun (r : Int32) (u : Unit) => match u with | _ => r = m_X6_two v0 v1 v2) 1 () := (show m_X6_two v0 v1 v2 = 1 from by unfold m_X6_two; rw [if_neg s_1, if_neg s_4, if_neg s_7, if_pos s_8, if_neg c_9]).symm
      exact W.iret (v := 1) hx hb hr (fun t ht hW => ⟨⟨1, (), rfl, hpost, by rw [ht]; exact hP, va_K.moved hW.alike hK, hD⟩, hS.F ht⟩) hS.2.2 dX6_two_82
  by_cases s_10 : v0 = 15
  · skip
    refine lv_tableIn (off := 82) (tgt := 83) hx hb dX6_two_1 (by rw [s_10]; decide) (by rw [s_10]; decide) (by rw [s_10]; decide) (by decide +kernel) ?_
    refine lv_iload_n hx hb dX6_two_83 rfl (lv_at hl 1 rfl) ?_
    refine lv_iload_n hx hb dX6_two_84 rfl (lv_at hl 2 rfl) ?_
    refine lv_icmp_ne (tgt := 92) hx hb dX6_two_85 (by decide +kernel) (fun c_11 => ?_) (fun c_11 => ?_)
    · skip
      refine lv_iconst (v := 0) hx hb dX6_two_92 (by decide +kernel) ?_
      have hpost : (fun (r : Int32) (u : Unit) => match u with | _ => r = m_X6_two v0 v1 v2) 0 () := (show m_X6_two v0 v1 v2 = 0 from by unfold m_X6_two; rw [if_neg s_1, if_neg s_4, if_neg s_7, if_neg s_8, if_pos s_10, if_neg c_11]).symm
      exact W.iret (v := 0) hx hb hr (fun t ht hW => ⟨⟨0, (), rfl, hpost, by rw [ht]; exact hP, va_K.moved hW.alike hK, hD⟩, hS.F ht⟩) hS.2.2 dX6_two_93
    · skip
      refine lv_iconst (v := 1) hx hb dX6_two_88 (by decide +kernel) ?_
      refine lv_goto (tgt := 93) hx hb dX6_two_89 (by decide +kernel) ?_
      have hpost : (fun (r : Int32) (u : Unit) => match u with | _ => r = m_X6_two v0 v1 v2) 1 () := (show m_X6_two v0 v1 v2 = 1 from by unfold m_X6_two; rw [if_neg s_1, if_neg s_4, if_neg s_7, if_neg s_8, if_pos s_10, if_pos c_11]).symm
      exact W.iret (v := 1) hx hb hr (fun t ht hW => ⟨⟨1, (), rfl, hpost, by rw [ht]; exact hP, va_K.moved hW.alike hK, hD⟩, hS.F ht⟩) hS.2.2 dX6_two_93
  by_cases s_12 : v0 = 16
  · skip
    refine lv_tableIn (off := 93) (tgt := 94) hx hb dX6_two_1 (by rw [s_12]; decide) (by rw [s_12]; decide) (by rw [s_12]; decide) (by decide +kernel) ?_
    refine lv_iload_n hx hb dX6_two_94 rfl (lv_at hl 1 rfl) ?_
    refine lv_iload_n hx hb dX6_two_95 rfl (lv_at hl 2 rfl) ?_
    refine lv_iadd hx hb dX6_two_96 ?_
    have hpost : (fun (r : Int32) (u : Unit) => match u with | _ => r = m_X6_two v0 v1 v2) (v1 + v2) () := (show m_X6_two v0 v1 v2 = (v1 + v2) from by unfold m_X6_two; rw [if_neg s_1, if_neg s_4, if_neg s_7, if_neg s_8, if_neg s_10, if_pos s_12]).symm
    exact W.iret (v := (v1 + v2)) hx hb hr (fun t ht hW => ⟨⟨(v1 + v2), (), rfl, hpost, by rw [ht]; exact hP, va_K.moved hW.alike hK, hD⟩, hS.F ht⟩) hS.2.2 dX6_two_97
  by_cases s_13 : v0 = 17
  · skip
    refine lv_tableIn (off := 97) (tgt := 98) hx hb dX6_two_1 (by rw [s_13]; decide) (by rw [s_13]; decide) (by rw [s_13]; decide) (by decide +kernel) ?_
    refine lv_iload_n hx hb dX6_two_98 rfl (lv_at hl 1 rfl) ?_
    refine lv_iload_n hx hb dX6_two_99 rfl (lv_at hl 2 rfl) ?_
    refine lv_isub hx hb dX6_two_100 ?_
    have hpost : (fun (r : Int32) (u : Unit) => match u with | _ => r = m_X6_two v0 v1 v2) (v1 - v2) () := (show m_X6_two v0 v1 v2 = (v1 - v2) from by unfold m_X6_two; rw [if_neg s_1, if_neg s_4, if_neg s_7, if_neg s_8, if_neg s_10, if_neg s_12, if_pos s_13]).symm
    exact W.iret (v := (v1 - v2)) hx hb hr (fun t ht hW => ⟨⟨(v1 - v2), (), rfl, hpost, by rw [ht]; exact hP, va_K.moved hW.alike hK, hD⟩, hS.F ht⟩) hS.2.2 dX6_two_101
  have s_1T := lv_neT (a := 11) s_1 (by decide +kernel)
  have s_4T := lv_neT (a := 12) s_4 (by decide +kernel)
  have s_7T := lv_neT (a := 13) s_7 (by decide +kernel)
  have s_8T := lv_neT (a := 14) s_8 (by decide +kernel)
  have s_10T := lv_neT (a := 15) s_10 (by decide +kernel)
  have s_12T := lv_neT (a := 16) s_12 (by decide +kernel)
  have s_13T := lv_neT (a := 17) s_13 (by decide +kernel)
  refine lv_tableOut (tgt := 102) hx hb dX6_two_1 (by omega) (by decide +kernel) ?_
  refine lv_iload_n hx hb dX6_two_102 rfl (lv_at hl 1 rfl) ?_
  refine lv_iload_n hx hb dX6_two_103 rfl (lv_at hl 2 rfl) ?_
  refine lv_imul hx hb dX6_two_104 ?_
  have hpost : (fun (r : Int32) (u : Unit) => match u with | _ => r = m_X6_two v0 v1 v2) (v1 * v2) () := (show m_X6_two v0 v1 v2 = (v1 * v2) from by unfold m_X6_two; rw [if_neg s_1, if_neg s_4, if_neg s_7, if_neg s_8, if_neg s_10, if_neg s_12, if_neg s_13]).symm
  exact W.iret (v := (v1 * v2)) hx hb hr (fun t ht hW => ⟨⟨(v1 * v2), (), rfl, hpost, by rw [ht]; exact hP, va_K.moved hW.alike hK, hD⟩, hS.F ht⟩) hS.2.2 dX6_two_105
abbrev q_X6_isPebble (G : gG) (h0 kd mo st ro tp cd sr ir ih ss sq ce lw wo he sk na kp gb go fa ga vo : Nat) (pb : Nat) (jg : Nat) (td : Nat) (tx : Nat) (ru : Nat) (him : Int32) (s19 : Int32) (s20 : Int32) (s21 : Int32) (s22 : Int32) (s25 : Int32) (s26 : Int32) (s27 : Int32) (s31 : Int32) (s32 : Int32) (s33 : Int32) (s34 : Int32) (s39 : Int32) (s40 : Int32) (v0 : Int32) (A : Nat → Prop) : Array Value → State → Outcome → State → Prop := va_Qi (fun (r : Int32) (u : Unit) => match u with | _ => r = bz (mHas pb v0)) (fun (u : Unit) t => match u with | _ => va_P G.1 vwCl [zo6 h0 (nI pb) kd mo st (nI jg) ro tp (nI td) cd sr (nI tx) (nI ru) him ir ih ss sq ce lw s19 s20 s21 s22 wo he s25 s26 s27 sk na kp s31 s32 s33 s34 gb go fa ga s39 s40 vo] t.heap ∧ gK G t ∧ va_D A [zo6 h0 (nI pb) kd mo st (nI jg) ro tp (nI td) cd sr (nI tx) (nI ru) him ir ih ss sq ce lw s19 s20 s21 s22 wo he s25 s26 s27 sk na kp s31 s32 s33 s34 gb go fa ga s39 s40 vo]) A
set_option maxHeartbeats 4000000 in
set_option maxRecDepth 100000 in
theorem c_X6_isPebble (l : Launch) (G : gG) (h0 kd mo st ro tp cd sr ir ih ss sq ce lw wo he sk na kp gb go fa ga vo : Nat) (pb : Nat) (jg : Nat) (td : Nat) (tx : Nat) (ru : Nat) (him : Int32) (s19 : Int32) (s20 : Int32) (s21 : Int32) (s22 : Int32) (s25 : Int32) (s26 : Int32) (s27 : Int32) (s31 : Int32) (s32 : Int32) (s33 : Int32) (s34 : Int32) (s39 : Int32) (s40 : Int32) (v0 : Int32) (sz : Nat) (hpb : pb ≤ 6) (hjg : jg ≤ 4) (htx : tx ≤ 6) (hru : ru < tx) : Met l yX6_isPebble wsX6_isPebble ({ frames := 1, cells := 0, slots := 0, locals := 22 }) (gPre G [.ref h0, .int v0] [zo6 h0 (nI pb) kd mo st (nI jg) ro tp (nI td) cd sr (nI tx) (nI ru) him ir ih ss sq ce lw s19 s20 s21 s22 wo he s25 s26 s27 sk na kp s31 s32 s33 s34 gb go fa ga s39 s40 vo] sz) (q_X6_isPebble G h0 kd mo st ro tp cd sr ir ih ss sq ce lw wo he sk na kp gb go fa ga vo pb jg td tx ru him s19 s20 s21 s22 s25 s26 s27 s31 s32 s33 s34 s39 s40 v0 (va_A [zo6 h0 (nI pb) kd mo st (nI jg) ro tp (nI td) cd sr (nI tx) (nI ru) him ir ih ss sq ce lw s19 s20 s21 s22 wo he s25 s26 s27 sk na kp s31 s32 s33 s34 gb go fa ga s39 s40 vo] sz)) 0 0 (va_A [zo6 h0 (nI pb) kd mo st (nI jg) ro tp (nI td) cd sr (nI tx) (nI ru) him ir ih ss sq ce lw s19 s20 s21 s22 wo he s25 s26 s27 sk na kp s31 s32 s33 s34 gb go fa ga s39 s40 vo] sz) := by
  refine Met.ofW (cc := cX6_isPebble) (maxL := 2) (ret := (some .boolean)) (by decide +kernel) rfl ?_
  intro p e s m args below meth c s₁ B hml hv
  obtain ⟨rfl, hsz, hP, hK, hD0⟩ := hv
  have hx := B.exec
  have hb := B.bytes
  have hr := B.returns
  have hts := atoms_spec (ws := wsX6_isPebble) B.pre
  have hown : s.vm.findClass RX6 = some m.cls := findClass_of_methodNamed B.named
  have hlocks := B.notSynchronized
  subst hsz
  have hD := hD0.self (sz := s.heap.size)
  generalize hAe : va_A [zo6 h0 (nI pb) kd mo st (nI jg) ro tp (nI td) cd sr (nI tx) (nI ru) him ir ih ss sq ce lw s19 s20 s21 s22 wo he s25 s26 s27 sk na kp s31 s32 s33 s34 gb go fa ga s39 s40 vo] s.heap.size = A at hD ⊢
  have hA : ∀ q : Nat, s.heap.size ≤ q → A q := fun q h => by rw [← hAe]; exact Or.inr h
  have hS : va_S A s.heap s.heap [] := va_S.rf
  have hz9 : gPD G A [zo6 h0 (nI pb) kd mo st (nI jg) ro tp (nI td) cd sr (nI tx) (nI ru) him ir ih ss sq ce lw s19 s20 s21 s22 wo he s25 s26 s27 sk na kp s31 s32 s33 s34 gb go fa ga s39 s40 vo] s.heap := ⟨hP, hD⟩
  have hP := hz9.1
  have hD := hz9.2
  have hl := lv_entry ([.ref h0, .int v0]) (n := 2) (Nat.le_of_ble_eq_true rfl)
  rw [lg_entry_eq]
  generalize (lg_sl ([.ref h0, .int v0]) ++ List.replicate (2 - (lg_sl ([.ref h0, .int v0])).length) Slot.unset).toArray = ls at hl ⊢
  have hl : lv_has ls 2 [zR 0 h0, zI 1 v0] := hl
  have kf88 := hts (.fieldLink RX6 88 "PebbleInShoeModel" "pebbles" "I") (by decide +kernel)
  have hiX6 := (by decide +kernel : ∀ w ∈ wsX60, w ∈ wsX6_isPebble)
  refine lv_iload_n hx hb dX6_isPebble_0 rfl (lv_at hl 1 rfl) ?_
  refine lv_iconst (v := 0) hx hb dX6_isPebble_1 (by decide +kernel) ?_
  refine g_aget (D := G.1) (ci := 6) (v := .int (nI pb)) (C := RX6) (T := TX6) (N := 42) hx hb dX6_isPebble_2 rfl (lv_at hl 0 rfl) hts hiX6 hown hK hP 0 rfl rfl 0 (by decide +kernel) kf88 (fun _ h9 => h9) rfl dX6_isPebble_3 ?_
  refine lv_iconst (v := 1) hx hb dX6_isPebble_6 (by decide +kernel) ?_
  refine lv_isub hx hb dX6_isPebble_7 ?_
  refine z_calli [] (v := bz (decide (0 ≤ v0 ∧ v0 ≤ ((nI pb) - 1)))) (fun _ _ h => h) (va_runS (As := [.int v0, .int 0, .int ((nI pb) - 1)]) (rest := []) ⟨hx, hb, hml, hown, hts⟩ (c_X6_in l G v0 0 ((nI pb) - 1) s.heap.size) (va_cwS 3 hts gX6_isPebble_X6_in rfl rfl rfl (by decide +kernel) ⟨Nat.le_of_ble_eq_true rfl, Nat.le_of_ble_eq_true rfl⟩) ⟨gPre_blind, fun U hU hW => gPre_ofF [] hU hW hK hP hD (by decide +kernel) rfl⟩ rfl rfl hl.1 rfl (lv_room (Nat.le_of_ble_eq_true rfl)) dX6_isPebble_8 ⟨Nat.le_of_ble_eq_true rfl, Nat.le_of_ble_eq_true rfl⟩) hS hD hA rfl (fun u t H locs ht hvm hB hz1 hk1 hFq hAq hS => ?_)
  obtain ⟨hP1, hK1, hD1⟩ := hB
  have hP := zKeep hP hD [] hAq hk1 ht hP1 rfl
  have hpost : (fun (r : Int32) (u : Unit) => match u with | _ => r = bz (mHas pb v0)) (bz (decide (0 ≤ v0 ∧ v0 ≤ ((nI pb) - 1)))) () := by show bz (decide (0 ≤ v0 ∧ v0 ≤ ((nI pb) - 1))) = bz (mHas pb v0); rw [mHas_sub (by omega)]
  exact W.zret (v := (bz (decide (0 ≤ v0 ∧ v0 ≤ ((nI pb) - 1))))) hx hb hr (bz_nar _) (fun t ht hW => ⟨⟨(bz (decide (0 ≤ v0 ∧ v0 ≤ ((nI pb) - 1)))), (), rfl, hpost, by rw [ht]; exact hP, va_K.moved hW.alike hK, hD⟩, hS.F ht⟩) hS.2.2 dX6_isPebble_11
abbrev q_X6_isJudge (G : gG) (h0 kd mo st ro tp cd sr ir ih ss sq ce lw wo he sk na kp gb go fa ga vo : Nat) (pb : Nat) (jg : Nat) (td : Nat) (tx : Nat) (ru : Nat) (him : Int32) (s19 : Int32) (s20 : Int32) (s21 : Int32) (s22 : Int32) (s25 : Int32) (s26 : Int32) (s27 : Int32) (s31 : Int32) (s32 : Int32) (s33 : Int32) (s34 : Int32) (s39 : Int32) (s40 : Int32) (v0 : Int32) (A : Nat → Prop) : Array Value → State → Outcome → State → Prop := va_Qi (fun (r : Int32) (u : Unit) => match u with | _ => r = bz (mHas jg v0)) (fun (u : Unit) t => match u with | _ => va_P G.1 vwCl [zo6 h0 (nI pb) kd mo st (nI jg) ro tp (nI td) cd sr (nI tx) (nI ru) him ir ih ss sq ce lw s19 s20 s21 s22 wo he s25 s26 s27 sk na kp s31 s32 s33 s34 gb go fa ga s39 s40 vo] t.heap ∧ gK G t ∧ va_D A [zo6 h0 (nI pb) kd mo st (nI jg) ro tp (nI td) cd sr (nI tx) (nI ru) him ir ih ss sq ce lw s19 s20 s21 s22 wo he s25 s26 s27 sk na kp s31 s32 s33 s34 gb go fa ga s39 s40 vo]) A
set_option maxHeartbeats 4000000 in
set_option maxRecDepth 100000 in
theorem c_X6_isJudge (l : Launch) (G : gG) (h0 kd mo st ro tp cd sr ir ih ss sq ce lw wo he sk na kp gb go fa ga vo : Nat) (pb : Nat) (jg : Nat) (td : Nat) (tx : Nat) (ru : Nat) (him : Int32) (s19 : Int32) (s20 : Int32) (s21 : Int32) (s22 : Int32) (s25 : Int32) (s26 : Int32) (s27 : Int32) (s31 : Int32) (s32 : Int32) (s33 : Int32) (s34 : Int32) (s39 : Int32) (s40 : Int32) (v0 : Int32) (sz : Nat) (hpb : pb ≤ 6) (hjg : jg ≤ 4) (htx : tx ≤ 6) (hru : ru < tx) : Met l yX6_isJudge wsX6_isJudge ({ frames := 1, cells := 0, slots := 0, locals := 22 }) (gPre G [.ref h0, .int v0] [zo6 h0 (nI pb) kd mo st (nI jg) ro tp (nI td) cd sr (nI tx) (nI ru) him ir ih ss sq ce lw s19 s20 s21 s22 wo he s25 s26 s27 sk na kp s31 s32 s33 s34 gb go fa ga s39 s40 vo] sz) (q_X6_isJudge G h0 kd mo st ro tp cd sr ir ih ss sq ce lw wo he sk na kp gb go fa ga vo pb jg td tx ru him s19 s20 s21 s22 s25 s26 s27 s31 s32 s33 s34 s39 s40 v0 (va_A [zo6 h0 (nI pb) kd mo st (nI jg) ro tp (nI td) cd sr (nI tx) (nI ru) him ir ih ss sq ce lw s19 s20 s21 s22 wo he s25 s26 s27 sk na kp s31 s32 s33 s34 gb go fa ga s39 s40 vo] sz)) 0 0 (va_A [zo6 h0 (nI pb) kd mo st (nI jg) ro tp (nI td) cd sr (nI tx) (nI ru) him ir ih ss sq ce lw s19 s20 s21 s22 wo he s25 s26 s27 sk na kp s31 s32 s33 s34 gb go fa ga s39 s40 vo] sz) := by
  refine Met.ofW (cc := cX6_isJudge) (maxL := 2) (ret := (some .boolean)) (by decide +kernel) rfl ?_
  intro p e s m args below meth c s₁ B hml hv
  obtain ⟨rfl, hsz, hP, hK, hD0⟩ := hv
  have hx := B.exec
  have hb := B.bytes
  have hr := B.returns
  have hts := atoms_spec (ws := wsX6_isJudge) B.pre
  have hown : s.vm.findClass RX6 = some m.cls := findClass_of_methodNamed B.named
  have hlocks := B.notSynchronized
  subst hsz
  have hD := hD0.self (sz := s.heap.size)
  generalize hAe : va_A [zo6 h0 (nI pb) kd mo st (nI jg) ro tp (nI td) cd sr (nI tx) (nI ru) him ir ih ss sq ce lw s19 s20 s21 s22 wo he s25 s26 s27 sk na kp s31 s32 s33 s34 gb go fa ga s39 s40 vo] s.heap.size = A at hD ⊢
  have hA : ∀ q : Nat, s.heap.size ≤ q → A q := fun q h => by rw [← hAe]; exact Or.inr h
  have hS : va_S A s.heap s.heap [] := va_S.rf
  have hz9 : gPD G A [zo6 h0 (nI pb) kd mo st (nI jg) ro tp (nI td) cd sr (nI tx) (nI ru) him ir ih ss sq ce lw s19 s20 s21 s22 wo he s25 s26 s27 sk na kp s31 s32 s33 s34 gb go fa ga s39 s40 vo] s.heap := ⟨hP, hD⟩
  have hP := hz9.1
  have hD := hz9.2
  have hl := lv_entry ([.ref h0, .int v0]) (n := 2) (Nat.le_of_ble_eq_true rfl)
  rw [lg_entry_eq]
  generalize (lg_sl ([.ref h0, .int v0]) ++ List.replicate (2 - (lg_sl ([.ref h0, .int v0])).length) Slot.unset).toArray = ls at hl ⊢
  have hl : lv_has ls 2 [zR 0 h0, zI 1 v0] := hl
  have kf95 := hts (.fieldLink RX6 95 "PebbleInShoeModel" "judges" "I") (by decide +kernel)
  have hiX6 := (by decide +kernel : ∀ w ∈ wsX60, w ∈ wsX6_isJudge)
  refine lv_iload_n hx hb dX6_isJudge_0 rfl (lv_at hl 1 rfl) ?_
  refine lv_iconst (v := 0) hx hb dX6_isJudge_1 (by decide +kernel) ?_
  refine g_aget (D := G.1) (ci := 6) (v := .int (nI jg)) (C := RX6) (T := TX6) (N := 42) hx hb dX6_isJudge_2 rfl (lv_at hl 0 rfl) hts hiX6 hown hK hP 0 rfl rfl 4 (by decide +kernel) kf95 (fun _ h9 => h9) rfl dX6_isJudge_3 ?_
  refine lv_iconst (v := 1) hx hb dX6_isJudge_6 (by decide +kernel) ?_
  refine lv_isub hx hb dX6_isJudge_7 ?_
  refine z_calli [] (v := bz (decide (0 ≤ v0 ∧ v0 ≤ ((nI jg) - 1)))) (fun _ _ h => h) (va_runS (As := [.int v0, .int 0, .int ((nI jg) - 1)]) (rest := []) ⟨hx, hb, hml, hown, hts⟩ (c_X6_in l G v0 0 ((nI jg) - 1) s.heap.size) (va_cwS 3 hts gX6_isJudge_X6_in rfl rfl rfl (by decide +kernel) ⟨Nat.le_of_ble_eq_true rfl, Nat.le_of_ble_eq_true rfl⟩) ⟨gPre_blind, fun U hU hW => gPre_ofF [] hU hW hK hP hD (by decide +kernel) rfl⟩ rfl rfl hl.1 rfl (lv_room (Nat.le_of_ble_eq_true rfl)) dX6_isJudge_8 ⟨Nat.le_of_ble_eq_true rfl, Nat.le_of_ble_eq_true rfl⟩) hS hD hA rfl (fun u t H locs ht hvm hB hz1 hk1 hFq hAq hS => ?_)
  obtain ⟨hP1, hK1, hD1⟩ := hB
  have hP := zKeep hP hD [] hAq hk1 ht hP1 rfl
  have hpost : (fun (r : Int32) (u : Unit) => match u with | _ => r = bz (mHas jg v0)) (bz (decide (0 ≤ v0 ∧ v0 ≤ ((nI jg) - 1)))) () := by show bz (decide (0 ≤ v0 ∧ v0 ≤ ((nI jg) - 1))) = bz (mHas jg v0); rw [mHas_sub (by omega)]
  exact W.zret (v := (bz (decide (0 ≤ v0 ∧ v0 ≤ ((nI jg) - 1))))) hx hb hr (bz_nar _) (fun t ht hW => ⟨⟨(bz (decide (0 ≤ v0 ∧ v0 ≤ ((nI jg) - 1)))), (), rfl, hpost, by rw [ht]; exact hP, va_K.moved hW.alike hK, hD⟩, hS.F ht⟩) hS.2.2 dX6_isJudge_11
abbrev q_X6_areMiles (G : gG) (v0 : Int32) (A : Nat → Prop) : Array Value → State → Outcome → State → Prop := va_Qi (fun (r : Int32) (u : Unit) => match u with | _ => r = bz (mMil v0)) (fun (u : Unit) t => match u with | _ => va_P G.1 vwCl [] t.heap ∧ gK G t ∧ va_D A []) A
set_option maxHeartbeats 4000000 in
set_option maxRecDepth 100000 in
theorem c_X6_areMiles (l : Launch) (G : gG) (v0 : Int32) (sz : Nat) : Met l yX6_areMiles wsX6_areMiles ({ frames := 1, cells := 0, slots := 0, locals := 22 }) (gPre G [.int v0] [] sz) (q_X6_areMiles G v0 (va_A [] sz)) 0 0 (va_A [] sz) := by
  refine Met.ofW (cc := cX6_areMiles) (maxL := 1) (ret := (some .boolean)) (by decide +kernel) rfl ?_
  intro p e s m args below meth c s₁ B hml hv
  obtain ⟨rfl, hsz, hP, hK, hD0⟩ := hv
  have hx := B.exec
  have hb := B.bytes
  have hr := B.returns
  have hts := atoms_spec (ws := wsX6_areMiles) B.pre
  have hown : s.vm.findClass RX6 = some m.cls := findClass_of_methodNamed B.named
  have hlocks := B.notSynchronized
  subst hsz
  have hD := hD0.self (sz := s.heap.size)
  generalize hAe : va_A [] s.heap.size = A at hD ⊢
  have hA : ∀ q : Nat, s.heap.size ≤ q → A q := fun q h => by rw [← hAe]; exact Or.inr h
  have hS : va_S A s.heap s.heap [] := va_S.rf
  have hz9 : gPD G A [] s.heap := ⟨hP, hD⟩
  have hP := hz9.1
  have hD := hz9.2
  have hl := lv_entry ([.int v0]) (n := 1) (Nat.le_of_ble_eq_true rfl)
  rw [lg_entry_eq]
  generalize (lg_sl ([.int v0]) ++ List.replicate (1 - (lg_sl ([.int v0])).length) Slot.unset).toArray = ls at hl ⊢
  have hl : lv_has ls 1 [zI 0 v0] := hl
  refine lv_iload_n hx hb dX6_areMiles_0 rfl (lv_at hl 0 rfl) ?_
  refine lv_iconst (v := 0) hx hb dX6_areMiles_1 (by decide +kernel) ?_
  refine lv_sipush (v := 960) hx hb dX6_areMiles_2 (by decide +kernel) ?_
  refine z_calli [] (v := bz (decide (0 ≤ v0 ∧ v0 ≤ 960))) (fun _ _ h => h) (va_runS (As := [.int v0, .int 0, .int 960]) (rest := []) ⟨hx, hb, hml, hown, hts⟩ (c_X6_in l G v0 0 960 s.heap.size) (va_cwS 3 hts gX6_areMiles_X6_in rfl rfl rfl (by decide +kernel) ⟨Nat.le_of_ble_eq_true rfl, Nat.le_of_ble_eq_true rfl⟩) ⟨gPre_blind, fun U hU hW => gPre_of hU hW hK hP hD⟩ rfl rfl hl.1 rfl (lv_room (Nat.le_of_ble_eq_true rfl)) dX6_areMiles_5 ⟨Nat.le_of_ble_eq_true rfl, Nat.le_of_ble_eq_true rfl⟩) hS hD hA rfl (fun u t H locs ht hvm hB hz1 hk1 hFq hAq hS => ?_)
  obtain ⟨hP1, hK1, hD1⟩ := hB
  have hP := zKeep hP hD [] hAq hk1 ht hP1 rfl
  refine lv_if_eq (tgt := 24) hx hb dX6_areMiles_8 (by decide +kernel) (fun c_3 => ?_) (fun c_3 => ?_)
  · skip
    have n_5 : ¬ (0 ≤ v0 ∧ v0 ≤ 960) := of_decide_eq_false (bz_eq rfl c_3)
    refine lv_iconst (v := 0) hx hb dX6_areMiles_24 (by decide +kernel) ?_
    have hpost : (fun (r : Int32) (u : Unit) => match u with | _ => r = bz (mMil v0)) 0 () := by show (0 : Int32) = bz (mMil v0); rw [mMil_f (fun z => n_5 z.1)]; rfl
    exact W.zret (v := 0) hx hb hr (rfl) (fun t ht hW => ⟨⟨0, (), rfl, hpost, by rw [ht]; exact hP, va_K.moved hW.alike hK, hD⟩, hS.F ht⟩) hS.2.2 dX6_areMiles_25
  · skip
    have p_4 : 0 ≤ v0 ∧ v0 ≤ 960 := of_decide_eq_true (bz_ne rfl c_3)
    have hv_6 : v0 = nI (nC v0) := nC_eq p_4.1
    have hk_7 : nC v0 ≤ 960 := nC_le (n := 960) (by omega) p_4
    refine lv_iload_n hx hb dX6_areMiles_11 rfl (lv_at hl 0 rfl) ?_
    refine g_topi (y := nI (nC v0)) hv_6 ?_
    refine lv_bipush (v := 100) hx hb dX6_areMiles_12 (by decide +kernel) ?_
    refine lv_irem hx hb dX6_areMiles_14 (by decide +kernel) ?_
    refine g_topi (y := nI ((nC v0) % 100)) (nI_rem (a := (nC v0)) (d := 100) (by omega) (by omega) (by omega)) ?_
    refine lv_bipush (v := 60) hx hb dX6_areMiles_15 (by decide +kernel) ?_
    refine lv_icmp_gt (tgt := 24) hx hb dX6_areMiles_17 (by decide +kernel) (fun c_10 => ?_) (fun c_10 => ?_)
    · skip
      have c_10N : 60 < ((nC v0) % 100) := nI_lt1 (a := 60) (b := ((nC v0) % 100)) (by omega) (by omega) c_10
      refine lv_iconst (v := 0) hx hb dX6_areMiles_24 (by decide +kernel) ?_
      have hpost : (fun (r : Int32) (u : Unit) => match u with | _ => r = bz (mMil v0)) 0 () := by show (0 : Int32) = bz (mMil v0); rw [mMil_f (fun z => absurd z.2 (by omega))]; rfl
      exact W.zret (v := 0) hx hb hr (rfl) (fun t ht hW => ⟨⟨0, (), rfl, hpost, by rw [ht]; exact hP, va_K.moved hW.alike hK, hD⟩, hS.F ht⟩) hS.2.2 dX6_areMiles_25
    · skip
      have c_10N : ((nC v0) % 100) ≤ 60 := nI_lt0 (a := 60) (b := ((nC v0) % 100)) (by omega) (by omega) c_10
      refine lv_iconst (v := 1) hx hb dX6_areMiles_20 (by decide +kernel) ?_
      refine lv_goto (tgt := 25) hx hb dX6_areMiles_21 (by decide +kernel) ?_
      have hpost : (fun (r : Int32) (u : Unit) => match u with | _ => r = bz (mMil v0)) 1 () := by show (1 : Int32) = bz (mMil v0); rw [mMil_t p_4 (by omega)]; rfl
      exact W.zret (v := 1) hx hb hr (rfl) (fun t ht hW => ⟨⟨1, (), rfl, hpost, by rw [ht]; exact hP, va_K.moved hW.alike hK, hD⟩, hS.F ht⟩) hS.2.2 dX6_areMiles_25
noncomputable def p_X6_ones_4 (v0 : Int32) : Nat → Nat → Int32 → Nat × Int32
  | 0, i4, no => (i4, no)
  | q9 + 1, i4, no => p_X6_ones_4 v0 q9 (i4 + 1) (no + ((v0 >>> ((nI i4) &&& 31)) &&& 1))
noncomputable def g_X6_ones_4 (v0 : Int32) : Nat × Int32 := p_X6_ones_4 v0 (6 - 0) 0 0
noncomputable def m_X6_ones (v0 : Int32) : Int32 := ((g_X6_ones_4 v0).2)
abbrev q_X6_ones (G : gG) (v0 : Int32) (A : Nat → Prop) : Array Value → State → Outcome → State → Prop := va_Qi (fun (r : Int32) (u : Unit) => match u with | _ => r = m_X6_ones v0) (fun (u : Unit) t => match u with | _ => va_P G.1 vwCl [] t.heap ∧ gK G t ∧ va_D A []) A
set_option maxHeartbeats 4000000 in
set_option maxRecDepth 100000 in
theorem c_X6_ones (l : Launch) (G : gG) (v0 : Int32) (sz : Nat) : Met l yX6_ones wsX6_ones ({ frames := 0, cells := 0, slots := 0, locals := 0 }) (gPre G [.int v0] [] sz) (q_X6_ones G v0 (va_A [] sz)) 0 0 (va_A [] sz) := by
  refine Met.ofW (cc := cX6_ones) (maxL := 3) (ret := (some .int)) (by decide +kernel) rfl ?_
  intro p e s m args below meth c s₁ B hml hv
  obtain ⟨rfl, hsz, hP, hK, hD0⟩ := hv
  have hx := B.exec
  have hb := B.bytes
  have hr := B.returns
  have hts := atoms_spec (ws := wsX6_ones) B.pre
  have hown : s.vm.findClass RX6 = some m.cls := findClass_of_methodNamed B.named
  have hlocks := B.notSynchronized
  subst hsz
  have hD := hD0.self (sz := s.heap.size)
  generalize hAe : va_A [] s.heap.size = A at hD ⊢
  have hA : ∀ q : Nat, s.heap.size ≤ q → A q := fun q h => by rw [← hAe]; exact Or.inr h
  have hS : va_S A s.heap s.heap [] := va_S.rf
  have hz9 : gPD G A [] s.heap := ⟨hP, hD⟩
  have hP := hz9.1
  have hD := hz9.2
  have hl := lv_entry ([.int v0]) (n := 3) (Nat.le_of_ble_eq_true rfl)
  rw [lg_entry_eq]
  generalize (lg_sl ([.int v0]) ++ List.replicate (3 - (lg_sl ([.int v0])).length) Slot.unset).toArray = ls at hl ⊢
  have hl : lv_has ls 3 [zI 0 v0] := hl
  refine lv_iconst (v := 0) hx hb dX6_ones_0 (by decide +kernel) ?_
  refine lv_istore_n (lv' := [zI 1 0, zI 0 v0]) hx hb dX6_ones_1 rfl hl (by decide +kernel) rfl (fun ls hl => ?_)
  refine lv_iconst (v := 0) hx hb dX6_ones_2 (by decide +kernel) ?_
  refine lv_istore_n (lv' := [zI 2 0, zI 1 0, zI 0 v0]) hx hb dX6_ones_3 rfl hl (by decide +kernel) rfl (fun ls hl => ?_)
  have loop_4 : ∀ (n9 : Nat) (i4 : Nat) (no : Int32), (i4 ≤ 6) → (p_X6_ones_4 v0 (6 - i4) i4 no = (g_X6_ones_4 v0)) → (6 - i4) < n9 → ∀ (H : Heap) (locs : List Loc), va_P G.1 vwCl [] H → va_D A [] → va_S A s.heap H locs → ∀ ls : Array Slot, lv_has ls 3 [zI 2 (nI i4), zI 1 no, zI 0 v0] → W p l e (headSpec wsX6_ones ({ frames := 0, cells := 0, slots := 0, locals := 0 })).room s m ([.int v0] : List Value).toArray below meth c H locs 0 0 (MQ below (q_X6_ones G v0 A) ([.int v0] : List Value).toArray s 0 0 A) (F0 m 4 ls []) := by
    intro n9
    induction n9 with
    | zero => intro i4 no hi4 R4 hm9_4; exact absurd hm9_4 (Nat.not_lt_zero _)
    | succ n9 ih9_4 =>
      intro i4 no hi4 R4 hm9_4 H locs hP hD hS ls hl
      refine lv_iload_n hx hb dX6_ones_4 rfl (lv_at hl 0 rfl) ?_
      refine lv_bipush (v := 6) hx hb dX6_ones_5 (by decide +kernel) ?_
      refine lv_icmp_ge (tgt := 24) hx hb dX6_ones_7 (by decide +kernel) (fun c_1 => ?_) (fun c_1 => ?_)
      · skip
        have c_1N : 6 ≤ i4 := nI_le1 (a := 6) (b := i4) (by omega) (by omega) c_1
        have hF4 : (g_X6_ones_4 v0) = (i4, no) := by rw [← R4, show 6 - i4 = 0 by omega]; rfl
        have hE4_0 : i4 = ((g_X6_ones_4 v0).1) := by rw [hF4]
        have hE4_1 : no = ((g_X6_ones_4 v0).2) := by rw [hF4]
        clear hF4 R4
        subst hE4_0
        subst hE4_1
        refine lv_iload_n hx hb dX6_ones_24 rfl (lv_at hl 1 rfl) ?_
        have hpost : (fun (r : Int32) (u : Unit) => match u with | _ => r = m_X6_ones v0) ((g_X6_ones_4 v0).2) () := (show m_X6_ones v0 = ((g_X6_ones_4 v0).2) from rfl).symm
        exact W.iret (v := ((g_X6_ones_4 v0).2)) hx hb hr (fun t ht hW => ⟨⟨((g_X6_ones_4 v0).2), (), rfl, hpost, by rw [ht]; exact hP, va_K.moved hW.alike hK, hD⟩, hS.F ht⟩) hS.2.2 dX6_ones_25
      · skip
        have c_1N : i4 < 6 := nI_le0 (a := 6) (b := i4) (by omega) (by omega) c_1
        refine lv_iload_n hx hb dX6_ones_10 rfl (lv_at hl 1 rfl) ?_
        refine lv_iload_n hx hb dX6_ones_11 rfl (lv_at hl 2 rfl) ?_
        refine lv_iload_n hx hb dX6_ones_12 rfl (lv_at hl 0 rfl) ?_
        refine lv_ishr hx hb dX6_ones_13 ?_
        refine lv_iconst (v := 1) hx hb dX6_ones_14 (by decide +kernel) ?_
        refine lv_iand hx hb dX6_ones_15 ?_
        refine lv_iadd hx hb dX6_ones_16 ?_
        refine lv_istore_n (lv' := [zI 1 (no + ((v0 >>> ((nI i4) &&& 31)) &&& 1)), zI 2 (nI i4), zI 0 v0]) hx hb dX6_ones_17 rfl hl (by decide +kernel) rfl (fun ls hl => ?_)
        refine lv_iinc (v := nI (i4 + 1)) (lv' := [zI 2 (nI (i4 + 1)), zI 1 (no + ((v0 >>> ((nI i4) &&& 31)) &&& 1)), zI 0 v0]) hx hb dX6_ones_18 hl (k := 1) rfl (nI_add i4 1) (by decide +kernel) rfl (fun ls hl => ?_)
        refine lv_goto (tgt := 4) hx hb dX6_ones_21 (by decide +kernel) ?_
        exact ih9_4 (i4 + 1) (no + ((v0 >>> ((nI i4) &&& 31)) &&& 1)) (by omega) (Eq.trans (Eq.symm ((congrArg (fun z9 => p_X6_ones_4 v0 (z9) i4 no) (show 6 - i4 = 6 - (i4 + 1) + 1 by omega)).trans (by show p_X6_ones_4 v0 (6 - (i4 + 1) + 1) i4 no = _; rw [p_X6_ones_4]))) R4) (by omega) _ _ hP hD hS ls hl
  exact loop_4 (6 - 0 + 1) 0 0 (by omega) (rfl) (by omega) _ _ hP hD hS ls hl
/-! sets of pebbles as small numbers -/
noncomputable def nAll (k : Nat) : Nat := 2 ^ k - 1
theorem nAll_eq {k : Nat} (h : k ≤ 6) : ((1 : Int32) <<< (nI k &&& 31)) - 1 = nI (nAll k) := (by decide +kernel : ∀ k, k < 7 → ((1 : Int32) <<< (nI k &&& 31)) - 1 = nI (nAll k)) k (by omega)
theorem nAll_le {k : Nat} (h : k ≤ 6) : nAll k ≤ 63 := (by decide +kernel : ∀ k, k < 7 → nAll k ≤ 63) k (by omega)
noncomputable def nOn (s : Nat) : Nat := nC (m_X6_ones (nI s))
theorem nOn_eq {s : Nat} (h : s < 63) : m_X6_ones (nI s) = nI (nOn s) := (by decide +kernel : ∀ s, s < 63 → m_X6_ones (nI s) = nI (nOn s)) s h
theorem nOn_le {s : Nat} (h : s < 63) : nOn s ≤ 5 := (by decide +kernel : ∀ s, s < 63 → nOn s ≤ 5) s h
noncomputable def nOr (s p : Nat) : Nat := s ||| 2 ^ p
theorem nOr_eq {s p : Nat} (h : s < 64) (hp : p < 6) : nI s ||| ((1 : Int32) <<< (nI p &&& 31)) = nI (nOr s p) := (by decide +kernel : ∀ s, s < 64 → ∀ p, p < 6 → nI s ||| ((1 : Int32) <<< (nI p &&& 31)) = nI (nOr s p)) s h p hp
theorem nOr_lt {s p : Nat} (h : s < 64) (hp : p < 6) : nOr s p < 64 := (by decide +kernel : ∀ s, s < 64 → ∀ p, p < 6 → nOr s p < 64) s h p hp
