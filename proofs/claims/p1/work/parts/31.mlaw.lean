abbrev q_X6_in_z2 (G : gG) (A : Nat → Prop) : Array Value → State → Outcome → State → Prop := va_Qi (fun (r : Int32) (u : Unit) => match u with | _ => r = 1) (fun (u : Unit) t => match u with | _ => va_P G.1 vwCl [] t.heap ∧ gK G t ∧ va_D A []) A
set_option maxHeartbeats 4000000 in
set_option maxRecDepth 100000 in
theorem c_X6_in_z2 (l : Launch) (G : gG) (sz : Nat) : Met l yX6_in wsX6_in ({ frames := 0, cells := 0, slots := 0, locals := 0 }) (gPre G [.int 102, .int 97, .int 122] [] sz) (q_X6_in_z2 G (va_A [] sz)) 0 0 (va_A [] sz) := by
  refine Met.ofW (cc := cX6_in) (maxL := 3) (ret := (some .boolean)) (by decide) rfl ?_
  intro p e s m args below meth c s₁ B hml hv
  obtain ⟨rfl, hsz, hP, hK, hD0⟩ := hv
  have hx := B.exec
  have hb := B.bytes
  have hr := B.returns
  have hts := atoms_spec (ws := wsX6_in) B.pre
  have hown : s.vm.findClass RX6 = some m.cls := findClass_of_methodNamed B.named
  have hlocks := B.notSynchronized
  subst hsz
  have hD := hD0.self (sz := s.heap.size)
  generalize hAe : va_A [] s.heap.size = A at hD ⊢
  have hA : ∀ q : Nat, s.heap.size ≤ q → A q := fun q h => by rw [← hAe]; exact Or.inr h
  have hS : va_S A s.heap s.heap [] := va_S.rf
  have hP : va_P G.1 vwCl [] s.heap := hP
  have hD : va_D A [] := hD
  have hl := lv_entry ([.int 102, .int 97, .int 122]) (n := 3) (Nat.le_of_ble_eq_true rfl)
  rw [lg_entry_eq]
  generalize (lg_sl ([.int 102, .int 97, .int 122]) ++ List.replicate (3 - (lg_sl ([.int 102, .int 97, .int 122])).length) Slot.unset).toArray = ls at hl ⊢
  have hl : lv_has ls 3 [(0, .int 102), (1, .int 97), (2, .int 122)] := hl
  refine lv_iload_n hx hb dX6_in_0 rfl (lv_at hl 0 rfl) ?_
  refine lv_iload_n hx hb dX6_in_1 rfl (lv_at hl 1 rfl) ?_
  refine lv_icmp_lt (tgt := 14) hx hb dX6_in_2 (by decide) (fun c_1 => ?_) (fun c_1 => ?_)
  · exact absurd c_1 (by decide)
  refine lv_iload_n hx hb dX6_in_5 rfl (lv_at hl 0 rfl) ?_
  refine lv_iload_n hx hb dX6_in_6 rfl (lv_at hl 2 rfl) ?_
  refine lv_icmp_gt (tgt := 14) hx hb dX6_in_7 (by decide) (fun c_2 => ?_) (fun c_2 => ?_)
  · exact absurd c_2 (by decide)
  refine lv_iconst (v := 1) hx hb dX6_in_10 (by decide) ?_
  refine lv_goto (tgt := 15) hx hb dX6_in_11 (by decide) ?_
  have hP9 := hP.sub (ws' := []) [] rfl
  have hD9 := hD.sub (ws' := []) [] (by decide) rfl
  have hpost : (fun (r : Int32) (u : Unit) => match u with | _ => r = 1) 1 () := by first | rfl | trivial
  exact W.zret (v := 1) hx hb hr (rfl) (fun t ht hW => ⟨⟨1, (), rfl, hpost, by rw [ht]; exact hP9, va_K.moved hW.alike hK, hD9⟩, hS.F ht⟩) hS.2.2 dX6_in_15
abbrev q_X6_in_z3 (G : gG) (A : Nat → Prop) : Array Value → State → Outcome → State → Prop := va_Qi (fun (r : Int32) (u : Unit) => match u with | _ => r = 1) (fun (u : Unit) t => match u with | _ => va_P G.1 vwCl [] t.heap ∧ gK G t ∧ va_D A []) A
set_option maxHeartbeats 4000000 in
set_option maxRecDepth 100000 in
theorem c_X6_in_z3 (l : Launch) (G : gG) (sz : Nat) : Met l yX6_in wsX6_in ({ frames := 0, cells := 0, slots := 0, locals := 0 }) (gPre G [.int 101, .int 97, .int 122] [] sz) (q_X6_in_z3 G (va_A [] sz)) 0 0 (va_A [] sz) := by
  refine Met.ofW (cc := cX6_in) (maxL := 3) (ret := (some .boolean)) (by decide) rfl ?_
  intro p e s m args below meth c s₁ B hml hv
  obtain ⟨rfl, hsz, hP, hK, hD0⟩ := hv
  have hx := B.exec
  have hb := B.bytes
  have hr := B.returns
  have hts := atoms_spec (ws := wsX6_in) B.pre
  have hown : s.vm.findClass RX6 = some m.cls := findClass_of_methodNamed B.named
  have hlocks := B.notSynchronized
  subst hsz
  have hD := hD0.self (sz := s.heap.size)
  generalize hAe : va_A [] s.heap.size = A at hD ⊢
  have hA : ∀ q : Nat, s.heap.size ≤ q → A q := fun q h => by rw [← hAe]; exact Or.inr h
  have hS : va_S A s.heap s.heap [] := va_S.rf
  have hP : va_P G.1 vwCl [] s.heap := hP
  have hD : va_D A [] := hD
  have hl := lv_entry ([.int 101, .int 97, .int 122]) (n := 3) (Nat.le_of_ble_eq_true rfl)
  rw [lg_entry_eq]
  generalize (lg_sl ([.int 101, .int 97, .int 122]) ++ List.replicate (3 - (lg_sl ([.int 101, .int 97, .int 122])).length) Slot.unset).toArray = ls at hl ⊢
  have hl : lv_has ls 3 [(0, .int 101), (1, .int 97), (2, .int 122)] := hl
  refine lv_iload_n hx hb dX6_in_0 rfl (lv_at hl 0 rfl) ?_
  refine lv_iload_n hx hb dX6_in_1 rfl (lv_at hl 1 rfl) ?_
  refine lv_icmp_lt (tgt := 14) hx hb dX6_in_2 (by decide) (fun c_1 => ?_) (fun c_1 => ?_)
  · exact absurd c_1 (by decide)
  refine lv_iload_n hx hb dX6_in_5 rfl (lv_at hl 0 rfl) ?_
  refine lv_iload_n hx hb dX6_in_6 rfl (lv_at hl 2 rfl) ?_
  refine lv_icmp_gt (tgt := 14) hx hb dX6_in_7 (by decide) (fun c_2 => ?_) (fun c_2 => ?_)
  · exact absurd c_2 (by decide)
  refine lv_iconst (v := 1) hx hb dX6_in_10 (by decide) ?_
  refine lv_goto (tgt := 15) hx hb dX6_in_11 (by decide) ?_
  have hP9 := hP.sub (ws' := []) [] rfl
  have hD9 := hD.sub (ws' := []) [] (by decide) rfl
  have hpost : (fun (r : Int32) (u : Unit) => match u with | _ => r = 1) 1 () := by first | rfl | trivial
  exact W.zret (v := 1) hx hb hr (rfl) (fun t ht hW => ⟨⟨1, (), rfl, hpost, by rw [ht]; exact hP9, va_K.moved hW.alike hK, hD9⟩, hS.F ht⟩) hS.2.2 dX6_in_15
abbrev q_X6_in_z4 (G : gG) (A : Nat → Prop) : Array Value → State → Outcome → State → Prop := va_Qi (fun (r : Int32) (u : Unit) => match u with | _ => r = 1) (fun (u : Unit) t => match u with | _ => va_P G.1 vwCl [] t.heap ∧ gK G t ∧ va_D A []) A
set_option maxHeartbeats 4000000 in
set_option maxRecDepth 100000 in
theorem c_X6_in_z4 (l : Launch) (G : gG) (sz : Nat) : Met l yX6_in wsX6_in ({ frames := 0, cells := 0, slots := 0, locals := 0 }) (gPre G [.int 108, .int 97, .int 122] [] sz) (q_X6_in_z4 G (va_A [] sz)) 0 0 (va_A [] sz) := by
  refine Met.ofW (cc := cX6_in) (maxL := 3) (ret := (some .boolean)) (by decide) rfl ?_
  intro p e s m args below meth c s₁ B hml hv
  obtain ⟨rfl, hsz, hP, hK, hD0⟩ := hv
  have hx := B.exec
  have hb := B.bytes
  have hr := B.returns
  have hts := atoms_spec (ws := wsX6_in) B.pre
  have hown : s.vm.findClass RX6 = some m.cls := findClass_of_methodNamed B.named
  have hlocks := B.notSynchronized
  subst hsz
  have hD := hD0.self (sz := s.heap.size)
  generalize hAe : va_A [] s.heap.size = A at hD ⊢
  have hA : ∀ q : Nat, s.heap.size ≤ q → A q := fun q h => by rw [← hAe]; exact Or.inr h
  have hS : va_S A s.heap s.heap [] := va_S.rf
  have hP : va_P G.1 vwCl [] s.heap := hP
  have hD : va_D A [] := hD
  have hl := lv_entry ([.int 108, .int 97, .int 122]) (n := 3) (Nat.le_of_ble_eq_true rfl)
  rw [lg_entry_eq]
  generalize (lg_sl ([.int 108, .int 97, .int 122]) ++ List.replicate (3 - (lg_sl ([.int 108, .int 97, .int 122])).length) Slot.unset).toArray = ls at hl ⊢
  have hl : lv_has ls 3 [(0, .int 108), (1, .int 97), (2, .int 122)] := hl
  refine lv_iload_n hx hb dX6_in_0 rfl (lv_at hl 0 rfl) ?_
  refine lv_iload_n hx hb dX6_in_1 rfl (lv_at hl 1 rfl) ?_
  refine lv_icmp_lt (tgt := 14) hx hb dX6_in_2 (by decide) (fun c_1 => ?_) (fun c_1 => ?_)
  · exact absurd c_1 (by decide)
  refine lv_iload_n hx hb dX6_in_5 rfl (lv_at hl 0 rfl) ?_
  refine lv_iload_n hx hb dX6_in_6 rfl (lv_at hl 2 rfl) ?_
  refine lv_icmp_gt (tgt := 14) hx hb dX6_in_7 (by decide) (fun c_2 => ?_) (fun c_2 => ?_)
  · exact absurd c_2 (by decide)
  refine lv_iconst (v := 1) hx hb dX6_in_10 (by decide) ?_
  refine lv_goto (tgt := 15) hx hb dX6_in_11 (by decide) ?_
  have hP9 := hP.sub (ws' := []) [] rfl
  have hD9 := hD.sub (ws' := []) [] (by decide) rfl
  have hpost : (fun (r : Int32) (u : Unit) => match u with | _ => r = 1) 1 () := by first | rfl | trivial
  exact W.zret (v := 1) hx hb hr (rfl) (fun t ht hW => ⟨⟨1, (), rfl, hpost, by rw [ht]; exact hP9, va_K.moved hW.alike hK, hD9⟩, hS.F ht⟩) hS.2.2 dX6_in_15
abbrev q_X6_in_z5 (G : gG) (A : Nat → Prop) : Array Value → State → Outcome → State → Prop := va_Qi (fun (r : Int32) (u : Unit) => match u with | _ => r = 1) (fun (u : Unit) t => match u with | _ => va_P G.1 vwCl [] t.heap ∧ gK G t ∧ va_D A []) A
set_option maxHeartbeats 4000000 in
set_option maxRecDepth 100000 in
theorem c_X6_in_z5 (l : Launch) (G : gG) (sz : Nat) : Met l yX6_in wsX6_in ({ frames := 0, cells := 0, slots := 0, locals := 0 }) (gPre G [.int 115, .int 97, .int 122] [] sz) (q_X6_in_z5 G (va_A [] sz)) 0 0 (va_A [] sz) := by
  refine Met.ofW (cc := cX6_in) (maxL := 3) (ret := (some .boolean)) (by decide) rfl ?_
  intro p e s m args below meth c s₁ B hml hv
  obtain ⟨rfl, hsz, hP, hK, hD0⟩ := hv
  have hx := B.exec
  have hb := B.bytes
  have hr := B.returns
  have hts := atoms_spec (ws := wsX6_in) B.pre
  have hown : s.vm.findClass RX6 = some m.cls := findClass_of_methodNamed B.named
  have hlocks := B.notSynchronized
  subst hsz
  have hD := hD0.self (sz := s.heap.size)
  generalize hAe : va_A [] s.heap.size = A at hD ⊢
  have hA : ∀ q : Nat, s.heap.size ≤ q → A q := fun q h => by rw [← hAe]; exact Or.inr h
  have hS : va_S A s.heap s.heap [] := va_S.rf
  have hP : va_P G.1 vwCl [] s.heap := hP
  have hD : va_D A [] := hD
  have hl := lv_entry ([.int 115, .int 97, .int 122]) (n := 3) (Nat.le_of_ble_eq_true rfl)
  rw [lg_entry_eq]
  generalize (lg_sl ([.int 115, .int 97, .int 122]) ++ List.replicate (3 - (lg_sl ([.int 115, .int 97, .int 122])).length) Slot.unset).toArray = ls at hl ⊢
  have hl : lv_has ls 3 [(0, .int 115), (1, .int 97), (2, .int 122)] := hl
  refine lv_iload_n hx hb dX6_in_0 rfl (lv_at hl 0 rfl) ?_
  refine lv_iload_n hx hb dX6_in_1 rfl (lv_at hl 1 rfl) ?_
  refine lv_icmp_lt (tgt := 14) hx hb dX6_in_2 (by decide) (fun c_1 => ?_) (fun c_1 => ?_)
  · exact absurd c_1 (by decide)
  refine lv_iload_n hx hb dX6_in_5 rfl (lv_at hl 0 rfl) ?_
  refine lv_iload_n hx hb dX6_in_6 rfl (lv_at hl 2 rfl) ?_
  refine lv_icmp_gt (tgt := 14) hx hb dX6_in_7 (by decide) (fun c_2 => ?_) (fun c_2 => ?_)
  · exact absurd c_2 (by decide)
  refine lv_iconst (v := 1) hx hb dX6_in_10 (by decide) ?_
  refine lv_goto (tgt := 15) hx hb dX6_in_11 (by decide) ?_
  have hP9 := hP.sub (ws' := []) [] rfl
  have hD9 := hD.sub (ws' := []) [] (by decide) rfl
  have hpost : (fun (r : Int32) (u : Unit) => match u with | _ => r = 1) 1 () := by first | rfl | trivial
  exact W.zret (v := 1) hx hb hr (rfl) (fun t ht hW => ⟨⟨1, (), rfl, hpost, by rw [ht]; exact hP9, va_K.moved hW.alike hK, hD9⟩, hS.F ht⟩) hS.2.2 dX6_in_15
abbrev q_X6_in_z6 (G : gG) (A : Nat → Prop) : Array Value → State → Outcome → State → Prop := va_Qi (fun (r : Int32) (u : Unit) => match u with | _ => r = 0) (fun (u : Unit) t => match u with | _ => va_P G.1 vwCl [] t.heap ∧ gK G t ∧ va_D A []) A
set_option maxHeartbeats 4000000 in
set_option maxRecDepth 100000 in
theorem c_X6_in_z6 (l : Launch) (G : gG) (sz : Nat) : Met l yX6_in wsX6_in ({ frames := 0, cells := 0, slots := 0, locals := 0 }) (gPre G [.int 32, .int 97, .int 122] [] sz) (q_X6_in_z6 G (va_A [] sz)) 0 0 (va_A [] sz) := by
  refine Met.ofW (cc := cX6_in) (maxL := 3) (ret := (some .boolean)) (by decide) rfl ?_
  intro p e s m args below meth c s₁ B hml hv
  obtain ⟨rfl, hsz, hP, hK, hD0⟩ := hv
  have hx := B.exec
  have hb := B.bytes
  have hr := B.returns
  have hts := atoms_spec (ws := wsX6_in) B.pre
  have hown : s.vm.findClass RX6 = some m.cls := findClass_of_methodNamed B.named
  have hlocks := B.notSynchronized
  subst hsz
  have hD := hD0.self (sz := s.heap.size)
  generalize hAe : va_A [] s.heap.size = A at hD ⊢
  have hA : ∀ q : Nat, s.heap.size ≤ q → A q := fun q h => by rw [← hAe]; exact Or.inr h
  have hS : va_S A s.heap s.heap [] := va_S.rf
  have hP : va_P G.1 vwCl [] s.heap := hP
  have hD : va_D A [] := hD
  have hl := lv_entry ([.int 32, .int 97, .int 122]) (n := 3) (Nat.le_of_ble_eq_true rfl)
  rw [lg_entry_eq]
  generalize (lg_sl ([.int 32, .int 97, .int 122]) ++ List.replicate (3 - (lg_sl ([.int 32, .int 97, .int 122])).length) Slot.unset).toArray = ls at hl ⊢
  have hl : lv_has ls 3 [(0, .int 32), (1, .int 97), (2, .int 122)] := hl
  refine lv_iload_n hx hb dX6_in_0 rfl (lv_at hl 0 rfl) ?_
  refine lv_iload_n hx hb dX6_in_1 rfl (lv_at hl 1 rfl) ?_
  refine lv_icmp_lt (tgt := 14) hx hb dX6_in_2 (by decide) (fun c_1 => ?_) (fun c_1 => ?_)
  rotate_left
  · exact absurd (by decide) c_1
  refine lv_iconst (v := 0) hx hb dX6_in_14 (by decide) ?_
  have hP9 := hP.sub (ws' := []) [] rfl
  have hD9 := hD.sub (ws' := []) [] (by decide) rfl
  have hpost : (fun (r : Int32) (u : Unit) => match u with | _ => r = 0) 0 () := by first | rfl | trivial
  exact W.zret (v := 0) hx hb hr (rfl) (fun t ht hW => ⟨⟨0, (), rfl, hpost, by rw [ht]; exact hP9, va_K.moved hW.alike hK, hD9⟩, hS.F ht⟩) hS.2.2 dX6_in_15
abbrev q_X6_wordFrom_z7 (G : gG) (h0 kd mo st ro tp cd sr ir ih ss sq ce lw wo he sk na kp gb go fa ga vo : Nat) (A : Nat → Prop) : Array Value → State → Outcome → State → Prop := va_Qi (fun (r : Int32) (u : Unit) => match u with | _ => r = 0) (fun (u : Unit) t => match u with | _ => va_P G.1 vwCl [(h0, .inr (6, [.int 0, .ref kd, .ref mo, .ref st, .int 0, .ref ro, .ref tp, .int 40, .ref cd, .ref sr, .int 0, .int 0, .int 0, .ref ir, .ref ih, .ref ss, .ref sq, .ref ce, .ref lw, .int 5, .int 0, .int 0, .int 0, .ref wo, .ref he, .int 0, .int 0, .int 0, .ref sk, .ref na, .ref kp, .int 0, .int 0, .int 0, .int 0, .ref gb, .ref go, .ref fa, .ref ga, .int 0, .int 0, .ref vo])), (tp, .inl (G.2.1, 160, .inl (gPf tB 40))), (wo, .inl (G.2.1, 96, .inl (gPf tW 96)))] t.heap ∧ gK G t ∧ va_D A [(h0, .inr (6, [.int 0, .ref kd, .ref mo, .ref st, .int 0, .ref ro, .ref tp, .int 40, .ref cd, .ref sr, .int 0, .int 0, .int 0, .ref ir, .ref ih, .ref ss, .ref sq, .ref ce, .ref lw, .int 5, .int 0, .int 0, .int 0, .ref wo, .ref he, .int 0, .int 0, .int 0, .ref sk, .ref na, .ref kp, .int 0, .int 0, .int 0, .int 0, .ref gb, .ref go, .ref fa, .ref ga, .int 0, .int 0, .ref vo])), (tp, .inl (G.2.1, 160, .inl (gPf tB 40))), (wo, .inl (G.2.1, 96, .inl (gPf tW 96)))]) A
set_option maxHeartbeats 4000000 in
set_option maxRecDepth 100000 in
theorem c_X6_wordFrom_z7 (l : Launch) (G : gG) (h0 kd mo st ro tp cd sr ir ih ss sq ce lw wo he sk na kp gb go fa ga vo : Nat) (sz : Nat) : Met l yX6_wordFrom wsX6_wordFrom ({ frames := 0, cells := 0, slots := 0, locals := 0 }) (gPre G [.ref h0, .int 0, .int 5] [(h0, .inr (6, [.int 0, .ref kd, .ref mo, .ref st, .int 0, .ref ro, .ref tp, .int 40, .ref cd, .ref sr, .int 0, .int 0, .int 0, .ref ir, .ref ih, .ref ss, .ref sq, .ref ce, .ref lw, .int 5, .int 0, .int 0, .int 0, .ref wo, .ref he, .int 0, .int 0, .int 0, .ref sk, .ref na, .ref kp, .int 0, .int 0, .int 0, .int 0, .ref gb, .ref go, .ref fa, .ref ga, .int 0, .int 0, .ref vo])), (tp, .inl (G.2.1, 160, .inl (gPf tB 40))), (wo, .inl (G.2.1, 96, .inl (gPf tW 96)))] sz) (q_X6_wordFrom_z7 G h0 kd mo st ro tp cd sr ir ih ss sq ce lw wo he sk na kp gb go fa ga vo (va_A [(h0, .inr (6, [.int 0, .ref kd, .ref mo, .ref st, .int 0, .ref ro, .ref tp, .int 40, .ref cd, .ref sr, .int 0, .int 0, .int 0, .ref ir, .ref ih, .ref ss, .ref sq, .ref ce, .ref lw, .int 5, .int 0, .int 0, .int 0, .ref wo, .ref he, .int 0, .int 0, .int 0, .ref sk, .ref na, .ref kp, .int 0, .int 0, .int 0, .int 0, .ref gb, .ref go, .ref fa, .ref ga, .int 0, .int 0, .ref vo])), (tp, .inl (G.2.1, 160, .inl (gPf tB 40))), (wo, .inl (G.2.1, 96, .inl (gPf tW 96)))] sz)) 0 0 (va_A [(h0, .inr (6, [.int 0, .ref kd, .ref mo, .ref st, .int 0, .ref ro, .ref tp, .int 40, .ref cd, .ref sr, .int 0, .int 0, .int 0, .ref ir, .ref ih, .ref ss, .ref sq, .ref ce, .ref lw, .int 5, .int 0, .int 0, .int 0, .ref wo, .ref he, .int 0, .int 0, .int 0, .ref sk, .ref na, .ref kp, .int 0, .int 0, .int 0, .int 0, .ref gb, .ref go, .ref fa, .ref ga, .int 0, .int 0, .ref vo])), (tp, .inl (G.2.1, 160, .inl (gPf tB 40))), (wo, .inl (G.2.1, 96, .inl (gPf tW 96)))] sz) := by
  refine Met.ofW (cc := cX6_wordFrom) (maxL := 6) (ret := (some .int)) (by decide) rfl ?_
  intro p e s m args below meth c s₁ B hml hv
  obtain ⟨rfl, hsz, hP, hK, hD0⟩ := hv
  have hx := B.exec
  have hb := B.bytes
  have hr := B.returns
  have hts := atoms_spec (ws := wsX6_wordFrom) B.pre
  have hown : s.vm.findClass RX6 = some m.cls := findClass_of_methodNamed B.named
  have hlocks := B.notSynchronized
  subst hsz
  have hD := hD0.self (sz := s.heap.size)
  generalize hAe : va_A [(h0, .inr (6, [.int 0, .ref kd, .ref mo, .ref st, .int 0, .ref ro, .ref tp, .int 40, .ref cd, .ref sr, .int 0, .int 0, .int 0, .ref ir, .ref ih, .ref ss, .ref sq, .ref ce, .ref lw, .int 5, .int 0, .int 0, .int 0, .ref wo, .ref he, .int 0, .int 0, .int 0, .ref sk, .ref na, .ref kp, .int 0, .int 0, .int 0, .int 0, .ref gb, .ref go, .ref fa, .ref ga, .int 0, .int 0, .ref vo])), (tp, .inl (G.2.1, 160, .inl (gPf tB 40))), (wo, .inl (G.2.1, 96, .inl (gPf tW 96)))] s.heap.size = A at hD ⊢
  have hA : ∀ q : Nat, s.heap.size ≤ q → A q := fun q h => by rw [← hAe]; exact Or.inr h
  have hS : va_S A s.heap s.heap [] := va_S.rf
  have hP : va_P G.1 vwCl [(h0, .inr (6, [.int 0, .ref kd, .ref mo, .ref st, .int 0, .ref ro, .ref tp, .int 40, .ref cd, .ref sr, .int 0, .int 0, .int 0, .ref ir, .ref ih, .ref ss, .ref sq, .ref ce, .ref lw, .int 5, .int 0, .int 0, .int 0, .ref wo, .ref he, .int 0, .int 0, .int 0, .ref sk, .ref na, .ref kp, .int 0, .int 0, .int 0, .int 0, .ref gb, .ref go, .ref fa, .ref ga, .int 0, .int 0, .ref vo])), (tp, .inl (G.2.1, 160, .inl (gPf tB 40))), (wo, .inl (G.2.1, 96, .inl (gPf tW 96)))] s.heap := hP
  have hD : va_D A [(h0, .inr (6, [.int 0, .ref kd, .ref mo, .ref st, .int 0, .ref ro, .ref tp, .int 40, .ref cd, .ref sr, .int 0, .int 0, .int 0, .ref ir, .ref ih, .ref ss, .ref sq, .ref ce, .ref lw, .int 5, .int 0, .int 0, .int 0, .ref wo, .ref he, .int 0, .int 0, .int 0, .ref sk, .ref na, .ref kp, .int 0, .int 0, .int 0, .int 0, .ref gb, .ref go, .ref fa, .ref ga, .int 0, .int 0, .ref vo])), (tp, .inl (G.2.1, 160, .inl (gPf tB 40))), (wo, .inl (G.2.1, 96, .inl (gPf tW 96)))] := hD
  have hl := lv_entry ([.ref h0, .int 0, .int 5]) (n := 6) (Nat.le_of_ble_eq_true rfl)
  rw [lg_entry_eq]
  generalize (lg_sl ([.ref h0, .int 0, .int 5]) ++ List.replicate (6 - (lg_sl ([.ref h0, .int 0, .int 5])).length) Slot.unset).toArray = ls at hl ⊢
  have hl : lv_has ls 6 [(0, .ref h0), (1, .int 0), (2, .int 5)] := hl
  have kf49 := hts (.fieldLink RX6 49 "PebbleInShoeModel" "words" "[I") (by decide +kernel)
  have hiX6 := (by decide +kernel : ∀ w ∈ wsX60, w ∈ wsX6_wordFrom)
  have kf22 := hts (.fieldLink RX6 22 "PebbleInShoeModel" "tape" "[I") (by decide +kernel)
  refine lv_iconst (v := 0) hx hb dX6_wordFrom_0 (by decide) ?_
  refine lv_istore_n (lv' := [(3, .int 0), (0, .ref h0), (1, .int 0), (2, .int 5)]) hx hb dX6_wordFrom_1 rfl hl (by decide) rfl (fun ls hl => ?_)
  refine lv_iload_n hx hb dX6_wordFrom_2 rfl (lv_at hl 0 rfl) ?_
  refine lv_bipush (v := 12) hx hb dX6_wordFrom_3 (by decide) ?_
  refine lv_icmp_ge (tgt := 101) hx hb dX6_wordFrom_5 (by decide) (fun c_1 => ?_) (fun c_1 => ?_)
  · exact absurd c_1 (by decide)
  refine lv_iload_n hx hb dX6_wordFrom_8 rfl (lv_at hl 3 rfl) ?_
  refine lv_iload_n hx hb dX6_wordFrom_9 rfl (lv_at hl 2 rfl) ?_
  refine lv_isub hx hb dX6_wordFrom_10 ?_
  refine lv_topi (fun v_2 ev_2 => ?_)
  have ev_2 : v_2 = 5 := ev_2.trans (by decide)
  subst ev_2
  refine lv_bipush (v := 8) hx hb dX6_wordFrom_11 (by decide) ?_
  refine lv_icmp_gt (tgt := 20) hx hb dX6_wordFrom_13 (by decide) (fun c_3 => ?_) (fun c_3 => ?_)
  · exact absurd c_3 (by decide)
  refine lv_iconst (v := 1) hx hb dX6_wordFrom_16 (by decide) ?_
  refine lv_goto (tgt := 21) hx hb dX6_wordFrom_17 (by decide) ?_
  refine lv_istore (lv' := [(4, .int 1), (3, .int 0), (0, .ref h0), (1, .int 0), (2, .int 5)]) hx hb dX6_wordFrom_21 hl (by decide) rfl (fun ls hl => ?_)
  refine lv_iconst (v := 0) hx hb dX6_wordFrom_23 (by decide) ?_
  refine lv_istore (lv' := [(5, .int 0), (4, .int 1), (3, .int 0), (0, .ref h0), (1, .int 0), (2, .int 5)]) hx hb dX6_wordFrom_24 hl (by decide) rfl (fun ls hl => ?_)
  refine lv_iload hx hb dX6_wordFrom_26 (lv_at hl 0 rfl) ?_
  refine lv_bipush (v := 8) hx hb dX6_wordFrom_28 (by decide) ?_
  refine lv_icmp_ge (tgt := 88) hx hb dX6_wordFrom_30 (by decide) (fun c_4 => ?_) (fun c_4 => ?_)
  · exact absurd c_4 (by decide)
  refine lv_iload hx hb dX6_wordFrom_33 (lv_at hl 1 rfl) ?_
  refine lv_if_eq (tgt := 88) hx hb dX6_wordFrom_35 (by decide) (fun c_5 => ?_) (fun c_5 => ?_)
  · exact absurd c_5 (by decide)
  refine lv_aload_n hx hb dX6_wordFrom_38 rfl (lv_at hl 3 rfl) ?_
  refine va_get (D := G.1) (ci := 6) (v := .ref wo) (C := RX6) (T := TX6) (N := 42) hx hb hts hiX6 hown hK hP 0 rfl rfl 23 (by decide) kf49 (fun _ h9 => h9) rfl dX6_wordFrom_39 ?_
  refine lv_bipush (v := 8) hx hb dX6_wordFrom_42 (by decide) ?_
  refine lv_iload_n hx hb dX6_wordFrom_44 rfl (lv_at hl 2 rfl) ?_
  refine lv_imul hx hb dX6_wordFrom_45 ?_
  refine lv_topi (fun v_6 ev_6 => ?_)
  have ev_6 : v_6 = 0 := ev_6.trans (by decide)
  subst ev_6
  refine lv_iload hx hb dX6_wordFrom_46 (lv_at hl 0 rfl) ?_
  refine lv_iadd hx hb dX6_wordFrom_48 ?_
  refine lv_topi (fun v_7 ev_7 => ?_)
  have ev_7 : v_7 = 0 := ev_7.trans (by decide)
  subst ev_7
  refine va_iald (D := G.1) hx hb hK hP 2 0 rfl rfl (i := 0) (gIn (by decide)) dX6_wordFrom_49 ?_
  refine lv_topi (fun v_8 ev_8 => ?_)
  have ev_8 : v_8 = 102 := ev_8.trans (by decide)
  subst ev_8
  refine lv_iload_n hx hb dX6_wordFrom_50 rfl (lv_at hl 4 rfl) ?_
  refine lv_iload hx hb dX6_wordFrom_51 (lv_at hl 0 rfl) ?_
  refine lv_iadd hx hb dX6_wordFrom_53 ?_
  refine lv_topi (fun v_9 ev_9 => ?_)
  have ev_9 : v_9 = 0 := ev_9.trans (by decide)
  subst ev_9
  refine lv_iload_n hx hb dX6_wordFrom_54 rfl (lv_at hl 5 rfl) ?_
  refine lv_icmp_ge (tgt := 70) hx hb dX6_wordFrom_55 (by decide) (fun c_10 => ?_) (fun c_10 => ?_)
  · exact absurd c_10 (by decide)
  refine lv_aload_n hx hb dX6_wordFrom_58 rfl (lv_at hl 3 rfl) ?_
  refine va_get (D := G.1) (ci := 6) (v := .ref tp) (C := RX6) (T := TX6) (N := 42) hx hb hts hiX6 hown hK hP 0 rfl rfl 6 (by decide) kf22 (fun _ h9 => h9) rfl dX6_wordFrom_59 ?_
  refine lv_iload_n hx hb dX6_wordFrom_62 rfl (lv_at hl 4 rfl) ?_
  refine lv_iload hx hb dX6_wordFrom_63 (lv_at hl 0 rfl) ?_
  refine lv_iadd hx hb dX6_wordFrom_65 ?_
  refine lv_topi (fun v_11 ev_11 => ?_)
  have ev_11 : v_11 = 0 := ev_11.trans (by decide)
  subst ev_11
  refine va_iald (D := G.1) hx hb hK hP 1 0 rfl rfl (i := 0) (gIn (by decide)) dX6_wordFrom_66 ?_
  refine lv_topi (fun v_12 ev_12 => ?_)
  have ev_12 : v_12 = 102 := ev_12.trans (by decide)
  subst ev_12
  refine lv_goto (tgt := 72) hx hb dX6_wordFrom_67 (by decide) ?_
  refine lv_icmp_ne (tgt := 79) hx hb dX6_wordFrom_72 (by decide) (fun c_13 => ?_) (fun c_13 => ?_)
  · exact absurd (by decide) c_13
  refine lv_iconst (v := 1) hx hb dX6_wordFrom_75 (by decide) ?_
  refine lv_goto (tgt := 80) hx hb dX6_wordFrom_76 (by decide) ?_
  refine lv_istore (lv' := [(4, .int 1), (5, .int 0), (3, .int 0), (0, .ref h0), (1, .int 0), (2, .int 5)]) hx hb dX6_wordFrom_80 hl (by decide) rfl (fun ls hl => ?_)
  refine lv_iinc (v := 1) (lv' := [(5, .int 1), (4, .int 1), (3, .int 0), (0, .ref h0), (1, .int 0), (2, .int 5)]) hx hb dX6_wordFrom_82 hl (k := 1) rfl (by decide) (by decide) rfl (fun ls hl => ?_)
  refine lv_goto (tgt := 26) hx hb dX6_wordFrom_85 (by decide) ?_
  refine lv_iload hx hb dX6_wordFrom_26 (lv_at hl 0 rfl) ?_
  refine lv_bipush (v := 8) hx hb dX6_wordFrom_28 (by decide) ?_
  refine lv_icmp_ge (tgt := 88) hx hb dX6_wordFrom_30 (by decide) (fun c_14 => ?_) (fun c_14 => ?_)
  · exact absurd c_14 (by decide)
  refine lv_iload hx hb dX6_wordFrom_33 (lv_at hl 1 rfl) ?_
  refine lv_if_eq (tgt := 88) hx hb dX6_wordFrom_35 (by decide) (fun c_15 => ?_) (fun c_15 => ?_)
  · exact absurd c_15 (by decide)
  refine lv_aload_n hx hb dX6_wordFrom_38 rfl (lv_at hl 3 rfl) ?_
  refine va_get (D := G.1) (ci := 6) (v := .ref wo) (C := RX6) (T := TX6) (N := 42) hx hb hts hiX6 hown hK hP 0 rfl rfl 23 (by decide) kf49 (fun _ h9 => h9) rfl dX6_wordFrom_39 ?_
  refine lv_bipush (v := 8) hx hb dX6_wordFrom_42 (by decide) ?_
  refine lv_iload_n hx hb dX6_wordFrom_44 rfl (lv_at hl 2 rfl) ?_
  refine lv_imul hx hb dX6_wordFrom_45 ?_
  refine lv_topi (fun v_16 ev_16 => ?_)
  have ev_16 : v_16 = 0 := ev_16.trans (by decide)
  subst ev_16
  refine lv_iload hx hb dX6_wordFrom_46 (lv_at hl 0 rfl) ?_
  refine lv_iadd hx hb dX6_wordFrom_48 ?_
  refine lv_topi (fun v_17 ev_17 => ?_)
  have ev_17 : v_17 = 1 := ev_17.trans (by decide)
  subst ev_17
  refine va_iald (D := G.1) hx hb hK hP 2 0 rfl rfl (i := 1) (gIn (by decide)) dX6_wordFrom_49 ?_
  refine lv_topi (fun v_18 ev_18 => ?_)
  have ev_18 : v_18 = 101 := ev_18.trans (by decide)
  subst ev_18
  refine lv_iload_n hx hb dX6_wordFrom_50 rfl (lv_at hl 4 rfl) ?_
  refine lv_iload hx hb dX6_wordFrom_51 (lv_at hl 0 rfl) ?_
  refine lv_iadd hx hb dX6_wordFrom_53 ?_
  refine lv_topi (fun v_19 ev_19 => ?_)
  have ev_19 : v_19 = 1 := ev_19.trans (by decide)
  subst ev_19
  refine lv_iload_n hx hb dX6_wordFrom_54 rfl (lv_at hl 5 rfl) ?_
  refine lv_icmp_ge (tgt := 70) hx hb dX6_wordFrom_55 (by decide) (fun c_20 => ?_) (fun c_20 => ?_)
  · exact absurd c_20 (by decide)
  refine lv_aload_n hx hb dX6_wordFrom_58 rfl (lv_at hl 3 rfl) ?_
  refine va_get (D := G.1) (ci := 6) (v := .ref tp) (C := RX6) (T := TX6) (N := 42) hx hb hts hiX6 hown hK hP 0 rfl rfl 6 (by decide) kf22 (fun _ h9 => h9) rfl dX6_wordFrom_59 ?_
  refine lv_iload_n hx hb dX6_wordFrom_62 rfl (lv_at hl 4 rfl) ?_
  refine lv_iload hx hb dX6_wordFrom_63 (lv_at hl 0 rfl) ?_
  refine lv_iadd hx hb dX6_wordFrom_65 ?_
  refine lv_topi (fun v_21 ev_21 => ?_)
  have ev_21 : v_21 = 1 := ev_21.trans (by decide)
  subst ev_21
  refine va_iald (D := G.1) hx hb hK hP 1 0 rfl rfl (i := 1) (gIn (by decide)) dX6_wordFrom_66 ?_
  refine lv_topi (fun v_22 ev_22 => ?_)
  have ev_22 : v_22 = 101 := ev_22.trans (by decide)
  subst ev_22
  refine lv_goto (tgt := 72) hx hb dX6_wordFrom_67 (by decide) ?_
  refine lv_icmp_ne (tgt := 79) hx hb dX6_wordFrom_72 (by decide) (fun c_23 => ?_) (fun c_23 => ?_)
  · exact absurd (by decide) c_23
  refine lv_iconst (v := 1) hx hb dX6_wordFrom_75 (by decide) ?_
  refine lv_goto (tgt := 80) hx hb dX6_wordFrom_76 (by decide) ?_
  refine lv_istore (lv' := [(4, .int 1), (5, .int 1), (3, .int 0), (0, .ref h0), (1, .int 0), (2, .int 5)]) hx hb dX6_wordFrom_80 hl (by decide) rfl (fun ls hl => ?_)
  refine lv_iinc (v := 2) (lv' := [(5, .int 2), (4, .int 1), (3, .int 0), (0, .ref h0), (1, .int 0), (2, .int 5)]) hx hb dX6_wordFrom_82 hl (k := 1) rfl (by decide) (by decide) rfl (fun ls hl => ?_)
  refine lv_goto (tgt := 26) hx hb dX6_wordFrom_85 (by decide) ?_
  refine lv_iload hx hb dX6_wordFrom_26 (lv_at hl 0 rfl) ?_
  refine lv_bipush (v := 8) hx hb dX6_wordFrom_28 (by decide) ?_
  refine lv_icmp_ge (tgt := 88) hx hb dX6_wordFrom_30 (by decide) (fun c_24 => ?_) (fun c_24 => ?_)
  · exact absurd c_24 (by decide)
  refine lv_iload hx hb dX6_wordFrom_33 (lv_at hl 1 rfl) ?_
  refine lv_if_eq (tgt := 88) hx hb dX6_wordFrom_35 (by decide) (fun c_25 => ?_) (fun c_25 => ?_)
  · exact absurd c_25 (by decide)
  refine lv_aload_n hx hb dX6_wordFrom_38 rfl (lv_at hl 3 rfl) ?_
  refine va_get (D := G.1) (ci := 6) (v := .ref wo) (C := RX6) (T := TX6) (N := 42) hx hb hts hiX6 hown hK hP 0 rfl rfl 23 (by decide) kf49 (fun _ h9 => h9) rfl dX6_wordFrom_39 ?_
  refine lv_bipush (v := 8) hx hb dX6_wordFrom_42 (by decide) ?_
  refine lv_iload_n hx hb dX6_wordFrom_44 rfl (lv_at hl 2 rfl) ?_
  refine lv_imul hx hb dX6_wordFrom_45 ?_
  refine lv_topi (fun v_26 ev_26 => ?_)
  have ev_26 : v_26 = 0 := ev_26.trans (by decide)
  subst ev_26
  refine lv_iload hx hb dX6_wordFrom_46 (lv_at hl 0 rfl) ?_
  refine lv_iadd hx hb dX6_wordFrom_48 ?_
  refine lv_topi (fun v_27 ev_27 => ?_)
  have ev_27 : v_27 = 2 := ev_27.trans (by decide)
  subst ev_27
  refine va_iald (D := G.1) hx hb hK hP 2 0 rfl rfl (i := 2) (gIn (by decide)) dX6_wordFrom_49 ?_
  refine lv_topi (fun v_28 ev_28 => ?_)
  have ev_28 : v_28 = 101 := ev_28.trans (by decide)
  subst ev_28
  refine lv_iload_n hx hb dX6_wordFrom_50 rfl (lv_at hl 4 rfl) ?_
  refine lv_iload hx hb dX6_wordFrom_51 (lv_at hl 0 rfl) ?_
  refine lv_iadd hx hb dX6_wordFrom_53 ?_
  refine lv_topi (fun v_29 ev_29 => ?_)
  have ev_29 : v_29 = 2 := ev_29.trans (by decide)
  subst ev_29
  refine lv_iload_n hx hb dX6_wordFrom_54 rfl (lv_at hl 5 rfl) ?_
  refine lv_icmp_ge (tgt := 70) hx hb dX6_wordFrom_55 (by decide) (fun c_30 => ?_) (fun c_30 => ?_)
  · exact absurd c_30 (by decide)
  refine lv_aload_n hx hb dX6_wordFrom_58 rfl (lv_at hl 3 rfl) ?_
  refine va_get (D := G.1) (ci := 6) (v := .ref tp) (C := RX6) (T := TX6) (N := 42) hx hb hts hiX6 hown hK hP 0 rfl rfl 6 (by decide) kf22 (fun _ h9 => h9) rfl dX6_wordFrom_59 ?_
  refine lv_iload_n hx hb dX6_wordFrom_62 rfl (lv_at hl 4 rfl) ?_
  refine lv_iload hx hb dX6_wordFrom_63 (lv_at hl 0 rfl) ?_
  refine lv_iadd hx hb dX6_wordFrom_65 ?_
  refine lv_topi (fun v_31 ev_31 => ?_)
  have ev_31 : v_31 = 2 := ev_31.trans (by decide)
  subst ev_31
  refine va_iald (D := G.1) hx hb hK hP 1 0 rfl rfl (i := 2) (gIn (by decide)) dX6_wordFrom_66 ?_
  refine lv_topi (fun v_32 ev_32 => ?_)
  have ev_32 : v_32 = 101 := ev_32.trans (by decide)
  subst ev_32
  refine lv_goto (tgt := 72) hx hb dX6_wordFrom_67 (by decide) ?_
  refine lv_icmp_ne (tgt := 79) hx hb dX6_wordFrom_72 (by decide) (fun c_33 => ?_) (fun c_33 => ?_)
  · exact absurd (by decide) c_33
  refine lv_iconst (v := 1) hx hb dX6_wordFrom_75 (by decide) ?_
  refine lv_goto (tgt := 80) hx hb dX6_wordFrom_76 (by decide) ?_
  refine lv_istore (lv' := [(4, .int 1), (5, .int 2), (3, .int 0), (0, .ref h0), (1, .int 0), (2, .int 5)]) hx hb dX6_wordFrom_80 hl (by decide) rfl (fun ls hl => ?_)
  refine lv_iinc (v := 3) (lv' := [(5, .int 3), (4, .int 1), (3, .int 0), (0, .ref h0), (1, .int 0), (2, .int 5)]) hx hb dX6_wordFrom_82 hl (k := 1) rfl (by decide) (by decide) rfl (fun ls hl => ?_)
  refine lv_goto (tgt := 26) hx hb dX6_wordFrom_85 (by decide) ?_
  refine lv_iload hx hb dX6_wordFrom_26 (lv_at hl 0 rfl) ?_
  refine lv_bipush (v := 8) hx hb dX6_wordFrom_28 (by decide) ?_
  refine lv_icmp_ge (tgt := 88) hx hb dX6_wordFrom_30 (by decide) (fun c_34 => ?_) (fun c_34 => ?_)
  · exact absurd c_34 (by decide)
  refine lv_iload hx hb dX6_wordFrom_33 (lv_at hl 1 rfl) ?_
  refine lv_if_eq (tgt := 88) hx hb dX6_wordFrom_35 (by decide) (fun c_35 => ?_) (fun c_35 => ?_)
  · exact absurd c_35 (by decide)
  refine lv_aload_n hx hb dX6_wordFrom_38 rfl (lv_at hl 3 rfl) ?_
  refine va_get (D := G.1) (ci := 6) (v := .ref wo) (C := RX6) (T := TX6) (N := 42) hx hb hts hiX6 hown hK hP 0 rfl rfl 23 (by decide) kf49 (fun _ h9 => h9) rfl dX6_wordFrom_39 ?_
  refine lv_bipush (v := 8) hx hb dX6_wordFrom_42 (by decide) ?_
  refine lv_iload_n hx hb dX6_wordFrom_44 rfl (lv_at hl 2 rfl) ?_
  refine lv_imul hx hb dX6_wordFrom_45 ?_
  refine lv_topi (fun v_36 ev_36 => ?_)
  have ev_36 : v_36 = 0 := ev_36.trans (by decide)
  subst ev_36
  refine lv_iload hx hb dX6_wordFrom_46 (lv_at hl 0 rfl) ?_
  refine lv_iadd hx hb dX6_wordFrom_48 ?_
  refine lv_topi (fun v_37 ev_37 => ?_)
  have ev_37 : v_37 = 3 := ev_37.trans (by decide)
  subst ev_37
  refine va_iald (D := G.1) hx hb hK hP 2 0 rfl rfl (i := 3) (gIn (by decide)) dX6_wordFrom_49 ?_
  refine lv_topi (fun v_38 ev_38 => ?_)
  have ev_38 : v_38 = 108 := ev_38.trans (by decide)
  subst ev_38
  refine lv_iload_n hx hb dX6_wordFrom_50 rfl (lv_at hl 4 rfl) ?_
  refine lv_iload hx hb dX6_wordFrom_51 (lv_at hl 0 rfl) ?_
  refine lv_iadd hx hb dX6_wordFrom_53 ?_
  refine lv_topi (fun v_39 ev_39 => ?_)
  have ev_39 : v_39 = 3 := ev_39.trans (by decide)
  subst ev_39
  refine lv_iload_n hx hb dX6_wordFrom_54 rfl (lv_at hl 5 rfl) ?_
  refine lv_icmp_ge (tgt := 70) hx hb dX6_wordFrom_55 (by decide) (fun c_40 => ?_) (fun c_40 => ?_)
  · exact absurd c_40 (by decide)
  refine lv_aload_n hx hb dX6_wordFrom_58 rfl (lv_at hl 3 rfl) ?_
  refine va_get (D := G.1) (ci := 6) (v := .ref tp) (C := RX6) (T := TX6) (N := 42) hx hb hts hiX6 hown hK hP 0 rfl rfl 6 (by decide) kf22 (fun _ h9 => h9) rfl dX6_wordFrom_59 ?_
  refine lv_iload_n hx hb dX6_wordFrom_62 rfl (lv_at hl 4 rfl) ?_
  refine lv_iload hx hb dX6_wordFrom_63 (lv_at hl 0 rfl) ?_
  refine lv_iadd hx hb dX6_wordFrom_65 ?_
  refine lv_topi (fun v_41 ev_41 => ?_)
  have ev_41 : v_41 = 3 := ev_41.trans (by decide)
  subst ev_41
  refine va_iald (D := G.1) hx hb hK hP 1 0 rfl rfl (i := 3) (gIn (by decide)) dX6_wordFrom_66 ?_
  refine lv_topi (fun v_42 ev_42 => ?_)
  have ev_42 : v_42 = 108 := ev_42.trans (by decide)
  subst ev_42
  refine lv_goto (tgt := 72) hx hb dX6_wordFrom_67 (by decide) ?_
  refine lv_icmp_ne (tgt := 79) hx hb dX6_wordFrom_72 (by decide) (fun c_43 => ?_) (fun c_43 => ?_)
  · exact absurd (by decide) c_43
  refine lv_iconst (v := 1) hx hb dX6_wordFrom_75 (by decide) ?_
  refine lv_goto (tgt := 80) hx hb dX6_wordFrom_76 (by decide) ?_
  refine lv_istore (lv' := [(4, .int 1), (5, .int 3), (3, .int 0), (0, .ref h0), (1, .int 0), (2, .int 5)]) hx hb dX6_wordFrom_80 hl (by decide) rfl (fun ls hl => ?_)
  refine lv_iinc (v := 4) (lv' := [(5, .int 4), (4, .int 1), (3, .int 0), (0, .ref h0), (1, .int 0), (2, .int 5)]) hx hb dX6_wordFrom_82 hl (k := 1) rfl (by decide) (by decide) rfl (fun ls hl => ?_)
  refine lv_goto (tgt := 26) hx hb dX6_wordFrom_85 (by decide) ?_
  refine lv_iload hx hb dX6_wordFrom_26 (lv_at hl 0 rfl) ?_
  refine lv_bipush (v := 8) hx hb dX6_wordFrom_28 (by decide) ?_
  refine lv_icmp_ge (tgt := 88) hx hb dX6_wordFrom_30 (by decide) (fun c_44 => ?_) (fun c_44 => ?_)
  · exact absurd c_44 (by decide)
  refine lv_iload hx hb dX6_wordFrom_33 (lv_at hl 1 rfl) ?_
  refine lv_if_eq (tgt := 88) hx hb dX6_wordFrom_35 (by decide) (fun c_45 => ?_) (fun c_45 => ?_)
  · exact absurd c_45 (by decide)
  refine lv_aload_n hx hb dX6_wordFrom_38 rfl (lv_at hl 3 rfl) ?_
  refine va_get (D := G.1) (ci := 6) (v := .ref wo) (C := RX6) (T := TX6) (N := 42) hx hb hts hiX6 hown hK hP 0 rfl rfl 23 (by decide) kf49 (fun _ h9 => h9) rfl dX6_wordFrom_39 ?_
  refine lv_bipush (v := 8) hx hb dX6_wordFrom_42 (by decide) ?_
  refine lv_iload_n hx hb dX6_wordFrom_44 rfl (lv_at hl 2 rfl) ?_
  refine lv_imul hx hb dX6_wordFrom_45 ?_
  refine lv_topi (fun v_46 ev_46 => ?_)
  have ev_46 : v_46 = 0 := ev_46.trans (by decide)
  subst ev_46
  refine lv_iload hx hb dX6_wordFrom_46 (lv_at hl 0 rfl) ?_
  refine lv_iadd hx hb dX6_wordFrom_48 ?_
  refine lv_topi (fun v_47 ev_47 => ?_)
  have ev_47 : v_47 = 4 := ev_47.trans (by decide)
  subst ev_47
  refine va_iald (D := G.1) hx hb hK hP 2 0 rfl rfl (i := 4) (gIn (by decide)) dX6_wordFrom_49 ?_
  refine lv_topi (fun v_48 ev_48 => ?_)
  have ev_48 : v_48 = 115 := ev_48.trans (by decide)
  subst ev_48
  refine lv_iload_n hx hb dX6_wordFrom_50 rfl (lv_at hl 4 rfl) ?_
  refine lv_iload hx hb dX6_wordFrom_51 (lv_at hl 0 rfl) ?_
  refine lv_iadd hx hb dX6_wordFrom_53 ?_
  refine lv_topi (fun v_49 ev_49 => ?_)
  have ev_49 : v_49 = 4 := ev_49.trans (by decide)
  subst ev_49
  refine lv_iload_n hx hb dX6_wordFrom_54 rfl (lv_at hl 5 rfl) ?_
  refine lv_icmp_ge (tgt := 70) hx hb dX6_wordFrom_55 (by decide) (fun c_50 => ?_) (fun c_50 => ?_)
  · exact absurd c_50 (by decide)
  refine lv_aload_n hx hb dX6_wordFrom_58 rfl (lv_at hl 3 rfl) ?_
  refine va_get (D := G.1) (ci := 6) (v := .ref tp) (C := RX6) (T := TX6) (N := 42) hx hb hts hiX6 hown hK hP 0 rfl rfl 6 (by decide) kf22 (fun _ h9 => h9) rfl dX6_wordFrom_59 ?_
  refine lv_iload_n hx hb dX6_wordFrom_62 rfl (lv_at hl 4 rfl) ?_
  refine lv_iload hx hb dX6_wordFrom_63 (lv_at hl 0 rfl) ?_
  refine lv_iadd hx hb dX6_wordFrom_65 ?_
  refine lv_topi (fun v_51 ev_51 => ?_)
  have ev_51 : v_51 = 4 := ev_51.trans (by decide)
  subst ev_51
  refine va_iald (D := G.1) hx hb hK hP 1 0 rfl rfl (i := 4) (gIn (by decide)) dX6_wordFrom_66 ?_
  refine lv_topi (fun v_52 ev_52 => ?_)
  have ev_52 : v_52 = 115 := ev_52.trans (by decide)
  subst ev_52
  refine lv_goto (tgt := 72) hx hb dX6_wordFrom_67 (by decide) ?_
  refine lv_icmp_ne (tgt := 79) hx hb dX6_wordFrom_72 (by decide) (fun c_53 => ?_) (fun c_53 => ?_)
  · exact absurd (by decide) c_53
  refine lv_iconst (v := 1) hx hb dX6_wordFrom_75 (by decide) ?_
  refine lv_goto (tgt := 80) hx hb dX6_wordFrom_76 (by decide) ?_
  refine lv_istore (lv' := [(4, .int 1), (5, .int 4), (3, .int 0), (0, .ref h0), (1, .int 0), (2, .int 5)]) hx hb dX6_wordFrom_80 hl (by decide) rfl (fun ls hl => ?_)
  refine lv_iinc (v := 5) (lv' := [(5, .int 5), (4, .int 1), (3, .int 0), (0, .ref h0), (1, .int 0), (2, .int 5)]) hx hb dX6_wordFrom_82 hl (k := 1) rfl (by decide) (by decide) rfl (fun ls hl => ?_)
  refine lv_goto (tgt := 26) hx hb dX6_wordFrom_85 (by decide) ?_
  refine lv_iload hx hb dX6_wordFrom_26 (lv_at hl 0 rfl) ?_
  refine lv_bipush (v := 8) hx hb dX6_wordFrom_28 (by decide) ?_
  refine lv_icmp_ge (tgt := 88) hx hb dX6_wordFrom_30 (by decide) (fun c_54 => ?_) (fun c_54 => ?_)
  · exact absurd c_54 (by decide)
  refine lv_iload hx hb dX6_wordFrom_33 (lv_at hl 1 rfl) ?_
  refine lv_if_eq (tgt := 88) hx hb dX6_wordFrom_35 (by decide) (fun c_55 => ?_) (fun c_55 => ?_)
  · exact absurd c_55 (by decide)
  refine lv_aload_n hx hb dX6_wordFrom_38 rfl (lv_at hl 3 rfl) ?_
  refine va_get (D := G.1) (ci := 6) (v := .ref wo) (C := RX6) (T := TX6) (N := 42) hx hb hts hiX6 hown hK hP 0 rfl rfl 23 (by decide) kf49 (fun _ h9 => h9) rfl dX6_wordFrom_39 ?_
  refine lv_bipush (v := 8) hx hb dX6_wordFrom_42 (by decide) ?_
  refine lv_iload_n hx hb dX6_wordFrom_44 rfl (lv_at hl 2 rfl) ?_
  refine lv_imul hx hb dX6_wordFrom_45 ?_
  refine lv_topi (fun v_56 ev_56 => ?_)
  have ev_56 : v_56 = 0 := ev_56.trans (by decide)
  subst ev_56
  refine lv_iload hx hb dX6_wordFrom_46 (lv_at hl 0 rfl) ?_
  refine lv_iadd hx hb dX6_wordFrom_48 ?_
  refine lv_topi (fun v_57 ev_57 => ?_)
  have ev_57 : v_57 = 5 := ev_57.trans (by decide)
  subst ev_57
  refine va_iald (D := G.1) hx hb hK hP 2 0 rfl rfl (i := 5) (gIn (by decide)) dX6_wordFrom_49 ?_
  refine lv_topi (fun v_58 ev_58 => ?_)
  have ev_58 : v_58 = 32 := ev_58.trans (by decide)
  subst ev_58
  refine lv_iload_n hx hb dX6_wordFrom_50 rfl (lv_at hl 4 rfl) ?_
  refine lv_iload hx hb dX6_wordFrom_51 (lv_at hl 0 rfl) ?_
  refine lv_iadd hx hb dX6_wordFrom_53 ?_
  refine lv_topi (fun v_59 ev_59 => ?_)
  have ev_59 : v_59 = 5 := ev_59.trans (by decide)
  subst ev_59
  refine lv_iload_n hx hb dX6_wordFrom_54 rfl (lv_at hl 5 rfl) ?_
  refine lv_icmp_ge (tgt := 70) hx hb dX6_wordFrom_55 (by decide) (fun c_60 => ?_) (fun c_60 => ?_)
  rotate_left
  · exact absurd (by decide) c_60
  refine lv_bipush (v := 32) hx hb dX6_wordFrom_70 (by decide) ?_
  refine lv_icmp_ne (tgt := 79) hx hb dX6_wordFrom_72 (by decide) (fun c_61 => ?_) (fun c_61 => ?_)
  · exact absurd (by decide) c_61
  refine lv_iconst (v := 1) hx hb dX6_wordFrom_75 (by decide) ?_
  refine lv_goto (tgt := 80) hx hb dX6_wordFrom_76 (by decide) ?_
  refine lv_istore (lv' := [(4, .int 1), (5, .int 5), (3, .int 0), (0, .ref h0), (1, .int 0), (2, .int 5)]) hx hb dX6_wordFrom_80 hl (by decide) rfl (fun ls hl => ?_)
  refine lv_iinc (v := 6) (lv' := [(5, .int 6), (4, .int 1), (3, .int 0), (0, .ref h0), (1, .int 0), (2, .int 5)]) hx hb dX6_wordFrom_82 hl (k := 1) rfl (by decide) (by decide) rfl (fun ls hl => ?_)
  refine lv_goto (tgt := 26) hx hb dX6_wordFrom_85 (by decide) ?_
  refine lv_iload hx hb dX6_wordFrom_26 (lv_at hl 0 rfl) ?_
  refine lv_bipush (v := 8) hx hb dX6_wordFrom_28 (by decide) ?_
  refine lv_icmp_ge (tgt := 88) hx hb dX6_wordFrom_30 (by decide) (fun c_62 => ?_) (fun c_62 => ?_)
  · exact absurd c_62 (by decide)
  refine lv_iload hx hb dX6_wordFrom_33 (lv_at hl 1 rfl) ?_
  refine lv_if_eq (tgt := 88) hx hb dX6_wordFrom_35 (by decide) (fun c_63 => ?_) (fun c_63 => ?_)
  · exact absurd c_63 (by decide)
  refine lv_aload_n hx hb dX6_wordFrom_38 rfl (lv_at hl 3 rfl) ?_
  refine va_get (D := G.1) (ci := 6) (v := .ref wo) (C := RX6) (T := TX6) (N := 42) hx hb hts hiX6 hown hK hP 0 rfl rfl 23 (by decide) kf49 (fun _ h9 => h9) rfl dX6_wordFrom_39 ?_
  refine lv_bipush (v := 8) hx hb dX6_wordFrom_42 (by decide) ?_
  refine lv_iload_n hx hb dX6_wordFrom_44 rfl (lv_at hl 2 rfl) ?_
  refine lv_imul hx hb dX6_wordFrom_45 ?_
  refine lv_topi (fun v_64 ev_64 => ?_)
  have ev_64 : v_64 = 0 := ev_64.trans (by decide)
  subst ev_64
  refine lv_iload hx hb dX6_wordFrom_46 (lv_at hl 0 rfl) ?_
  refine lv_iadd hx hb dX6_wordFrom_48 ?_
  refine lv_topi (fun v_65 ev_65 => ?_)
  have ev_65 : v_65 = 6 := ev_65.trans (by decide)
  subst ev_65
  refine va_iald (D := G.1) hx hb hK hP 2 0 rfl rfl (i := 6) (gIn (by decide)) dX6_wordFrom_49 ?_
  refine lv_topi (fun v_66 ev_66 => ?_)
  have ev_66 : v_66 = 32 := ev_66.trans (by decide)
  subst ev_66
  refine lv_iload_n hx hb dX6_wordFrom_50 rfl (lv_at hl 4 rfl) ?_
  refine lv_iload hx hb dX6_wordFrom_51 (lv_at hl 0 rfl) ?_
  refine lv_iadd hx hb dX6_wordFrom_53 ?_
  refine lv_topi (fun v_67 ev_67 => ?_)
  have ev_67 : v_67 = 6 := ev_67.trans (by decide)
  subst ev_67
  refine lv_iload_n hx hb dX6_wordFrom_54 rfl (lv_at hl 5 rfl) ?_
  refine lv_icmp_ge (tgt := 70) hx hb dX6_wordFrom_55 (by decide) (fun c_68 => ?_) (fun c_68 => ?_)
  rotate_left
  · exact absurd (by decide) c_68
  refine lv_bipush (v := 32) hx hb dX6_wordFrom_70 (by decide) ?_
  refine lv_icmp_ne (tgt := 79) hx hb dX6_wordFrom_72 (by decide) (fun c_69 => ?_) (fun c_69 => ?_)
  · exact absurd (by decide) c_69
  refine lv_iconst (v := 1) hx hb dX6_wordFrom_75 (by decide) ?_
  refine lv_goto (tgt := 80) hx hb dX6_wordFrom_76 (by decide) ?_
  refine lv_istore (lv' := [(4, .int 1), (5, .int 6), (3, .int 0), (0, .ref h0), (1, .int 0), (2, .int 5)]) hx hb dX6_wordFrom_80 hl (by decide) rfl (fun ls hl => ?_)
  refine lv_iinc (v := 7) (lv' := [(5, .int 7), (4, .int 1), (3, .int 0), (0, .ref h0), (1, .int 0), (2, .int 5)]) hx hb dX6_wordFrom_82 hl (k := 1) rfl (by decide) (by decide) rfl (fun ls hl => ?_)
  refine lv_goto (tgt := 26) hx hb dX6_wordFrom_85 (by decide) ?_
  refine lv_iload hx hb dX6_wordFrom_26 (lv_at hl 0 rfl) ?_
  refine lv_bipush (v := 8) hx hb dX6_wordFrom_28 (by decide) ?_
  refine lv_icmp_ge (tgt := 88) hx hb dX6_wordFrom_30 (by decide) (fun c_70 => ?_) (fun c_70 => ?_)
  · exact absurd c_70 (by decide)
  refine lv_iload hx hb dX6_wordFrom_33 (lv_at hl 1 rfl) ?_
  refine lv_if_eq (tgt := 88) hx hb dX6_wordFrom_35 (by decide) (fun c_71 => ?_) (fun c_71 => ?_)
  · exact absurd c_71 (by decide)
  refine lv_aload_n hx hb dX6_wordFrom_38 rfl (lv_at hl 3 rfl) ?_
  refine va_get (D := G.1) (ci := 6) (v := .ref wo) (C := RX6) (T := TX6) (N := 42) hx hb hts hiX6 hown hK hP 0 rfl rfl 23 (by decide) kf49 (fun _ h9 => h9) rfl dX6_wordFrom_39 ?_
  refine lv_bipush (v := 8) hx hb dX6_wordFrom_42 (by decide) ?_
  refine lv_iload_n hx hb dX6_wordFrom_44 rfl (lv_at hl 2 rfl) ?_
  refine lv_imul hx hb dX6_wordFrom_45 ?_
  refine lv_topi (fun v_72 ev_72 => ?_)
  have ev_72 : v_72 = 0 := ev_72.trans (by decide)
  subst ev_72
  refine lv_iload hx hb dX6_wordFrom_46 (lv_at hl 0 rfl) ?_
  refine lv_iadd hx hb dX6_wordFrom_48 ?_
  refine lv_topi (fun v_73 ev_73 => ?_)
  have ev_73 : v_73 = 7 := ev_73.trans (by decide)
  subst ev_73
  refine va_iald (D := G.1) hx hb hK hP 2 0 rfl rfl (i := 7) (gIn (by decide)) dX6_wordFrom_49 ?_
  refine lv_topi (fun v_74 ev_74 => ?_)
  have ev_74 : v_74 = 32 := ev_74.trans (by decide)
  subst ev_74
  refine lv_iload_n hx hb dX6_wordFrom_50 rfl (lv_at hl 4 rfl) ?_
  refine lv_iload hx hb dX6_wordFrom_51 (lv_at hl 0 rfl) ?_
  refine lv_iadd hx hb dX6_wordFrom_53 ?_
  refine lv_topi (fun v_75 ev_75 => ?_)
  have ev_75 : v_75 = 7 := ev_75.trans (by decide)
  subst ev_75
  refine lv_iload_n hx hb dX6_wordFrom_54 rfl (lv_at hl 5 rfl) ?_
  refine lv_icmp_ge (tgt := 70) hx hb dX6_wordFrom_55 (by decide) (fun c_76 => ?_) (fun c_76 => ?_)
  rotate_left
  · exact absurd (by decide) c_76
  refine lv_bipush (v := 32) hx hb dX6_wordFrom_70 (by decide) ?_
  refine lv_icmp_ne (tgt := 79) hx hb dX6_wordFrom_72 (by decide) (fun c_77 => ?_) (fun c_77 => ?_)
  · exact absurd (by decide) c_77
  refine lv_iconst (v := 1) hx hb dX6_wordFrom_75 (by decide) ?_
  refine lv_goto (tgt := 80) hx hb dX6_wordFrom_76 (by decide) ?_
  refine lv_istore (lv' := [(4, .int 1), (5, .int 7), (3, .int 0), (0, .ref h0), (1, .int 0), (2, .int 5)]) hx hb dX6_wordFrom_80 hl (by decide) rfl (fun ls hl => ?_)
  refine lv_iinc (v := 8) (lv' := [(5, .int 8), (4, .int 1), (3, .int 0), (0, .ref h0), (1, .int 0), (2, .int 5)]) hx hb dX6_wordFrom_82 hl (k := 1) rfl (by decide) (by decide) rfl (fun ls hl => ?_)
  refine lv_goto (tgt := 26) hx hb dX6_wordFrom_85 (by decide) ?_
  refine lv_iload hx hb dX6_wordFrom_26 (lv_at hl 0 rfl) ?_
  refine lv_bipush (v := 8) hx hb dX6_wordFrom_28 (by decide) ?_
  refine lv_icmp_ge (tgt := 88) hx hb dX6_wordFrom_30 (by decide) (fun c_78 => ?_) (fun c_78 => ?_)
  rotate_left
  · exact absurd (by decide) c_78
  refine lv_iload hx hb dX6_wordFrom_88 (lv_at hl 1 rfl) ?_
  refine lv_if_eq (tgt := 95) hx hb dX6_wordFrom_90 (by decide) (fun c_79 => ?_) (fun c_79 => ?_)
  · exact absurd c_79 (by decide)
  refine lv_iload_n hx hb dX6_wordFrom_93 rfl (lv_at hl 2 rfl) ?_
  have hP9 := hP.sub (ws' := [(h0, .inr (6, [.int 0, .ref kd, .ref mo, .ref st, .int 0, .ref ro, .ref tp, .int 40, .ref cd, .ref sr, .int 0, .int 0, .int 0, .ref ir, .ref ih, .ref ss, .ref sq, .ref ce, .ref lw, .int 5, .int 0, .int 0, .int 0, .ref wo, .ref he, .int 0, .int 0, .int 0, .ref sk, .ref na, .ref kp, .int 0, .int 0, .int 0, .int 0, .ref gb, .ref go, .ref fa, .ref ga, .int 0, .int 0, .ref vo])), (tp, .inl (G.2.1, 160, .inl (gPf tB 40))), (wo, .inl (G.2.1, 96, .inl (gPf tW 96)))]) [0, 1, 2] rfl
  have hD9 := hD.sub (ws' := [(h0, .inr (6, [.int 0, .ref kd, .ref mo, .ref st, .int 0, .ref ro, .ref tp, .int 40, .ref cd, .ref sr, .int 0, .int 0, .int 0, .ref ir, .ref ih, .ref ss, .ref sq, .ref ce, .ref lw, .int 5, .int 0, .int 0, .int 0, .ref wo, .ref he, .int 0, .int 0, .int 0, .ref sk, .ref na, .ref kp, .int 0, .int 0, .int 0, .int 0, .ref gb, .ref go, .ref fa, .ref ga, .int 0, .int 0, .ref vo])), (tp, .inl (G.2.1, 160, .inl (gPf tB 40))), (wo, .inl (G.2.1, 96, .inl (gPf tW 96)))]) [0, 1, 2] (by decide) rfl
  have hpost : (fun (r : Int32) (u : Unit) => match u with | _ => r = 0) 0 () := by first | rfl | trivial
  exact W.iret (v := 0) hx hb hr (fun t ht hW => ⟨⟨0, (), rfl, hpost, by rw [ht]; exact hP9, va_K.moved hW.alike hK, hD9⟩, hS.F ht⟩) hS.2.2 dX6_wordFrom_94
abbrev q_X6_next_z1 (G : gG) (h0 kd mo st ro tp cd sr ir ih ss sq ce lw wo he sk na kp gb go fa ga vo : Nat) (A : Nat → Prop) : Array Value → State → Outcome → State → Prop := va_Qv (fun (u : Unit) => match u with | _ => True) (fun (u : Unit) t => match u with | _ => va_P G.1 vwCl [(h0, .inr (6, [.int 0, .ref kd, .ref mo, .ref st, .int 0, .ref ro, .ref tp, .int 40, .ref cd, .ref sr, .int 0, .int 0, .int 0, .ref ir, .ref ih, .ref ss, .ref sq, .ref ce, .ref lw, .int 5, .int 0, .int 3, .int 0, .ref wo, .ref he, .int 0, .int 0, .int 0, .ref sk, .ref na, .ref kp, .int 0, .int 0, .int 0, .int 0, .ref gb, .ref go, .ref fa, .ref ga, .int 0, .int 0, .ref vo])), (tp, .inl (G.2.1, 160, .inl (gPf tB 40))), (wo, .inl (G.2.1, 96, .inl (gPf tW 96)))] t.heap ∧ gK G t ∧ va_D A [(h0, .inr (6, [.int 0, .ref kd, .ref mo, .ref st, .int 0, .ref ro, .ref tp, .int 40, .ref cd, .ref sr, .int 0, .int 0, .int 0, .ref ir, .ref ih, .ref ss, .ref sq, .ref ce, .ref lw, .int 5, .int 0, .int 3, .int 0, .ref wo, .ref he, .int 0, .int 0, .int 0, .ref sk, .ref na, .ref kp, .int 0, .int 0, .int 0, .int 0, .ref gb, .ref go, .ref fa, .ref ga, .int 0, .int 0, .ref vo])), (tp, .inl (G.2.1, 160, .inl (gPf tB 40))), (wo, .inl (G.2.1, 96, .inl (gPf tW 96)))]) A
set_option maxHeartbeats 4000000 in
set_option maxRecDepth 100000 in
theorem c_X6_next_z1 (l : Launch) (G : gG) (h0 kd mo st ro tp cd sr ir ih ss sq ce lw wo he sk na kp gb go fa ga vo : Nat) (sz : Nat) : Met l yX6_next wsX6_next ({ frames := 1, cells := 0, slots := 0, locals := 25 }) (gPre G [.ref h0] [(h0, .inr (6, [.int 0, .ref kd, .ref mo, .ref st, .int 0, .ref ro, .ref tp, .int 40, .ref cd, .ref sr, .int 0, .int 0, .int 0, .ref ir, .ref ih, .ref ss, .ref sq, .ref ce, .ref lw, .int 0, .int 0, .int 0, .int 0, .ref wo, .ref he, .int 0, .int 0, .int 0, .ref sk, .ref na, .ref kp, .int 0, .int 0, .int 0, .int 0, .ref gb, .ref go, .ref fa, .ref ga, .int 0, .int 0, .ref vo])), (tp, .inl (G.2.1, 160, .inl (gPf tB 40))), (wo, .inl (G.2.1, 96, .inl (gPf tW 96)))] sz) (q_X6_next_z1 G h0 kd mo st ro tp cd sr ir ih ss sq ce lw wo he sk na kp gb go fa ga vo (va_A [(h0, .inr (6, [.int 0, .ref kd, .ref mo, .ref st, .int 0, .ref ro, .ref tp, .int 40, .ref cd, .ref sr, .int 0, .int 0, .int 0, .ref ir, .ref ih, .ref ss, .ref sq, .ref ce, .ref lw, .int 0, .int 0, .int 0, .int 0, .ref wo, .ref he, .int 0, .int 0, .int 0, .ref sk, .ref na, .ref kp, .int 0, .int 0, .int 0, .int 0, .ref gb, .ref go, .ref fa, .ref ga, .int 0, .int 0, .ref vo])), (tp, .inl (G.2.1, 160, .inl (gPf tB 40))), (wo, .inl (G.2.1, 96, .inl (gPf tW 96)))] sz)) 0 0 (va_A [(h0, .inr (6, [.int 0, .ref kd, .ref mo, .ref st, .int 0, .ref ro, .ref tp, .int 40, .ref cd, .ref sr, .int 0, .int 0, .int 0, .ref ir, .ref ih, .ref ss, .ref sq, .ref ce, .ref lw, .int 0, .int 0, .int 0, .int 0, .ref wo, .ref he, .int 0, .int 0, .int 0, .ref sk, .ref na, .ref kp, .int 0, .int 0, .int 0, .int 0, .ref gb, .ref go, .ref fa, .ref ga, .int 0, .int 0, .ref vo])), (tp, .inl (G.2.1, 160, .inl (gPf tB 40))), (wo, .inl (G.2.1, 96, .inl (gPf tW 96)))] sz) := by
  refine Met.ofW (cc := cX6_next) (maxL := 3) (ret := none) (by decide) rfl ?_
  intro p e s m args below meth c s₁ B hml hv
  obtain ⟨rfl, hsz, hP, hK, hD0⟩ := hv
  have hx := B.exec
  have hb := B.bytes
  have hr := B.returns
  have hts := atoms_spec (ws := wsX6_next) B.pre
  have hown : s.vm.findClass RX6 = some m.cls := findClass_of_methodNamed B.named
  have hlocks := B.notSynchronized
  subst hsz
  have hD := hD0.self (sz := s.heap.size)
  generalize hAe : va_A [(h0, .inr (6, [.int 0, .ref kd, .ref mo, .ref st, .int 0, .ref ro, .ref tp, .int 40, .ref cd, .ref sr, .int 0, .int 0, .int 0, .ref ir, .ref ih, .ref ss, .ref sq, .ref ce, .ref lw, .int 0, .int 0, .int 0, .int 0, .ref wo, .ref he, .int 0, .int 0, .int 0, .ref sk, .ref na, .ref kp, .int 0, .int 0, .int 0, .int 0, .ref gb, .ref go, .ref fa, .ref ga, .int 0, .int 0, .ref vo])), (tp, .inl (G.2.1, 160, .inl (gPf tB 40))), (wo, .inl (G.2.1, 96, .inl (gPf tW 96)))] s.heap.size = A at hD ⊢
  have hA : ∀ q : Nat, s.heap.size ≤ q → A q := fun q h => by rw [← hAe]; exact Or.inr h
  have hS : va_S A s.heap s.heap [] := va_S.rf
  have hP : va_P G.1 vwCl [(h0, .inr (6, [.int 0, .ref kd, .ref mo, .ref st, .int 0, .ref ro, .ref tp, .int 40, .ref cd, .ref sr, .int 0, .int 0, .int 0, .ref ir, .ref ih, .ref ss, .ref sq, .ref ce, .ref lw, .int 0, .int 0, .int 0, .int 0, .ref wo, .ref he, .int 0, .int 0, .int 0, .ref sk, .ref na, .ref kp, .int 0, .int 0, .int 0, .int 0, .ref gb, .ref go, .ref fa, .ref ga, .int 0, .int 0, .ref vo])), (tp, .inl (G.2.1, 160, .inl (gPf tB 40))), (wo, .inl (G.2.1, 96, .inl (gPf tW 96)))] s.heap := hP
  have hD : va_D A [(h0, .inr (6, [.int 0, .ref kd, .ref mo, .ref st, .int 0, .ref ro, .ref tp, .int 40, .ref cd, .ref sr, .int 0, .int 0, .int 0, .ref ir, .ref ih, .ref ss, .ref sq, .ref ce, .ref lw, .int 0, .int 0, .int 0, .int 0, .ref wo, .ref he, .int 0, .int 0, .int 0, .ref sk, .ref na, .ref kp, .int 0, .int 0, .int 0, .int 0, .ref gb, .ref go, .ref fa, .ref ga, .int 0, .int 0, .ref vo])), (tp, .inl (G.2.1, 160, .inl (gPf tB 40))), (wo, .inl (G.2.1, 96, .inl (gPf tW 96)))] := hD
  have hl := lv_entry ([.ref h0]) (n := 3) (Nat.le_of_ble_eq_true rfl)
  rw [lg_entry_eq]
  generalize (lg_sl ([.ref h0]) ++ List.replicate (3 - (lg_sl ([.ref h0])).length) Slot.unset).toArray = ls at hl ⊢
  have hl : lv_has ls 3 [(0, .ref h0)] := hl
  have kf111 := hts (.fieldLink RX6 111 "PebbleInShoeModel" "at" "I") (by decide +kernel)
  have hiX6 := (by decide +kernel : ∀ w ∈ wsX60, w ∈ wsX6_next)
  have kf80 := hts (.fieldLink RX6 80 "PebbleInShoeModel" "taped" "I") (by decide +kernel)
  have kf22 := hts (.fieldLink RX6 22 "PebbleInShoeModel" "tape" "[I") (by decide +kernel)
  have kf114 := hts (.fieldLink RX6 114 "PebbleInShoeModel" "begun" "I") (by decide +kernel)
  have kf117 := hts (.fieldLink RX6 117 "PebbleInShoeModel" "token" "I") (by decide +kernel)
  have kf120 := hts (.fieldLink RX6 120 "PebbleInShoeModel" "value" "I") (by decide +kernel)
  refine lv_aload_n hx hb dX6_next_0 rfl (lv_at hl 0 rfl) ?_
  refine va_get (D := G.1) (ci := 6) (v := .int 0) (C := RX6) (T := TX6) (N := 42) hx hb hts hiX6 hown hK hP 0 rfl rfl 19 (by decide) kf111 (fun _ h9 => h9) rfl dX6_next_1 ?_
  refine lv_aload_n hx hb dX6_next_4 rfl (lv_at hl 0 rfl) ?_
  refine va_get (D := G.1) (ci := 6) (v := .int 40) (C := RX6) (T := TX6) (N := 42) hx hb hts hiX6 hown hK hP 0 rfl rfl 7 (by decide) kf80 (fun _ h9 => h9) rfl dX6_next_5 ?_
  refine lv_icmp_ge (tgt := 52) hx hb dX6_next_8 (by decide) (fun c_1 => ?_) (fun c_1 => ?_)
  · exact absurd c_1 (by decide)
  refine lv_aload_n hx hb dX6_next_11 rfl (lv_at hl 0 rfl) ?_
  refine va_get (D := G.1) (ci := 6) (v := .ref tp) (C := RX6) (T := TX6) (N := 42) hx hb hts hiX6 hown hK hP 0 rfl rfl 6 (by decide) kf22 (fun _ h9 => h9) rfl dX6_next_12 ?_
  refine lv_aload_n hx hb dX6_next_15 rfl (lv_at hl 0 rfl) ?_
  refine va_get (D := G.1) (ci := 6) (v := .int 0) (C := RX6) (T := TX6) (N := 42) hx hb hts hiX6 hown hK hP 0 rfl rfl 19 (by decide) kf111 (fun _ h9 => h9) rfl dX6_next_16 ?_
  refine va_iald (D := G.1) hx hb hK hP 1 0 rfl rfl (i := 0) (gIn (by decide)) dX6_next_19 ?_
  refine lv_topi (fun v_2 ev_2 => ?_)
  have ev_2 : v_2 = 102 := ev_2.trans (by decide)
  subst ev_2
  refine lv_bipush (v := 32) hx hb dX6_next_20 (by decide) ?_
  refine lv_icmp_eq (tgt := 39) hx hb dX6_next_22 (by decide) (fun c_3 => ?_) (fun c_3 => ?_)
  · exact absurd c_3 (by decide)
  refine lv_aload_n hx hb dX6_next_25 rfl (lv_at hl 0 rfl) ?_
  refine va_get (D := G.1) (ci := 6) (v := .ref tp) (C := RX6) (T := TX6) (N := 42) hx hb hts hiX6 hown hK hP 0 rfl rfl 6 (by decide) kf22 (fun _ h9 => h9) rfl dX6_next_26 ?_
  refine lv_aload_n hx hb dX6_next_29 rfl (lv_at hl 0 rfl) ?_
  refine va_get (D := G.1) (ci := 6) (v := .int 0) (C := RX6) (T := TX6) (N := 42) hx hb hts hiX6 hown hK hP 0 rfl rfl 19 (by decide) kf111 (fun _ h9 => h9) rfl dX6_next_30 ?_
  refine va_iald (D := G.1) hx hb hK hP 1 0 rfl rfl (i := 0) (gIn (by decide)) dX6_next_33 ?_
  refine lv_topi (fun v_4 ev_4 => ?_)
  have ev_4 : v_4 = 102 := ev_4.trans (by decide)
  subst ev_4
  refine lv_bipush (v := 10) hx hb dX6_next_34 (by decide) ?_
  refine lv_icmp_ne (tgt := 52) hx hb dX6_next_36 (by decide) (fun c_5 => ?_) (fun c_5 => ?_)
  rotate_left
  · exact absurd c_5 (by decide)
  refine lv_aload_n hx hb dX6_next_52 rfl (lv_at hl 0 rfl) ?_
  refine lv_aload_n hx hb dX6_next_53 rfl (lv_at hl 0 rfl) ?_
  refine va_get (D := G.1) (ci := 6) (v := .int 0) (C := RX6) (T := TX6) (N := 42) hx hb hts hiX6 hown hK hP 0 rfl rfl 19 (by decide) kf111 (fun _ h9 => h9) rfl dX6_next_54 ?_
  refine va_put (D := G.1) (ci := 6) (v := .int 0) (ty := .int) (C := RX6) (T := TX6) (N := 42) hx hb hts hiX6 tyX6 tyX6_ok nmX6 hown hK hP hD hS 0 rfl rfl 20 (by decide) kf114 (fun _ h9 => h9) rfl (by decide +kernel) rfl rfl (Nat.le_of_ble_eq_true rfl) dX6_next_57 (fun H locs hP hD hS => ?_)
  have hP : va_P G.1 vwCl [(h0, .inr (6, [.int 0, .ref kd, .ref mo, .ref st, .int 0, .ref ro, .ref tp, .int 40, .ref cd, .ref sr, .int 0, .int 0, .int 0, .ref ir, .ref ih, .ref ss, .ref sq, .ref ce, .ref lw, .int 0, .int 0, .int 0, .int 0, .ref wo, .ref he, .int 0, .int 0, .int 0, .ref sk, .ref na, .ref kp, .int 0, .int 0, .int 0, .int 0, .ref gb, .ref go, .ref fa, .ref ga, .int 0, .int 0, .ref vo])), (tp, .inl (G.2.1, 160, .inl (gPf tB 40))), (wo, .inl (G.2.1, 96, .inl (gPf tW 96)))] H := hP
  have hD : va_D A [(h0, .inr (6, [.int 0, .ref kd, .ref mo, .ref st, .int 0, .ref ro, .ref tp, .int 40, .ref cd, .ref sr, .int 0, .int 0, .int 0, .ref ir, .ref ih, .ref ss, .ref sq, .ref ce, .ref lw, .int 0, .int 0, .int 0, .int 0, .ref wo, .ref he, .int 0, .int 0, .int 0, .ref sk, .ref na, .ref kp, .int 0, .int 0, .int 0, .int 0, .ref gb, .ref go, .ref fa, .ref ga, .int 0, .int 0, .ref vo])), (tp, .inl (G.2.1, 160, .inl (gPf tB 40))), (wo, .inl (G.2.1, 96, .inl (gPf tW 96)))] := hD
  refine lv_aload_n hx hb dX6_next_60 rfl (lv_at hl 0 rfl) ?_
  refine lv_iconst (v := 0) hx hb dX6_next_61 (by decide) ?_
  refine va_put (D := G.1) (ci := 6) (v := .int 0) (ty := .int) (C := RX6) (T := TX6) (N := 42) hx hb hts hiX6 tyX6 tyX6_ok nmX6 hown hK hP hD hS 0 rfl rfl 21 (by decide) kf117 (fun _ h9 => h9) rfl (by decide +kernel) rfl rfl (Nat.le_of_ble_eq_true rfl) dX6_next_62 (fun H locs hP hD hS => ?_)
  have hP : va_P G.1 vwCl [(h0, .inr (6, [.int 0, .ref kd, .ref mo, .ref st, .int 0, .ref ro, .ref tp, .int 40, .ref cd, .ref sr, .int 0, .int 0, .int 0, .ref ir, .ref ih, .ref ss, .ref sq, .ref ce, .ref lw, .int 0, .int 0, .int 0, .int 0, .ref wo, .ref he, .int 0, .int 0, .int 0, .ref sk, .ref na, .ref kp, .int 0, .int 0, .int 0, .int 0, .ref gb, .ref go, .ref fa, .ref ga, .int 0, .int 0, .ref vo])), (tp, .inl (G.2.1, 160, .inl (gPf tB 40))), (wo, .inl (G.2.1, 96, .inl (gPf tW 96)))] H := hP
  have hD : va_D A [(h0, .inr (6, [.int 0, .ref kd, .ref mo, .ref st, .int 0, .ref ro, .ref tp, .int 40, .ref cd, .ref sr, .int 0, .int 0, .int 0, .ref ir, .ref ih, .ref ss, .ref sq, .ref ce, .ref lw, .int 0, .int 0, .int 0, .int 0, .ref wo, .ref he, .int 0, .int 0, .int 0, .ref sk, .ref na, .ref kp, .int 0, .int 0, .int 0, .int 0, .ref gb, .ref go, .ref fa, .ref ga, .int 0, .int 0, .ref vo])), (tp, .inl (G.2.1, 160, .inl (gPf tB 40))), (wo, .inl (G.2.1, 96, .inl (gPf tW 96)))] := hD
  refine lv_aload_n hx hb dX6_next_65 rfl (lv_at hl 0 rfl) ?_
  refine lv_iconst (v := 0) hx hb dX6_next_66 (by decide) ?_
  refine va_put (D := G.1) (ci := 6) (v := .int 0) (ty := .int) (C := RX6) (T := TX6) (N := 42) hx hb hts hiX6 tyX6 tyX6_ok nmX6 hown hK hP hD hS 0 rfl rfl 22 (by decide) kf120 (fun _ h9 => h9) rfl (by decide +kernel) rfl rfl (Nat.le_of_ble_eq_true rfl) dX6_next_67 (fun H locs hP hD hS => ?_)
  have hP : va_P G.1 vwCl [(h0, .inr (6, [.int 0, .ref kd, .ref mo, .ref st, .int 0, .ref ro, .ref tp, .int 40, .ref cd, .ref sr, .int 0, .int 0, .int 0, .ref ir, .ref ih, .ref ss, .ref sq, .ref ce, .ref lw, .int 0, .int 0, .int 0, .int 0, .ref wo, .ref he, .int 0, .int 0, .int 0, .ref sk, .ref na, .ref kp, .int 0, .int 0, .int 0, .int 0, .ref gb, .ref go, .ref fa, .ref ga, .int 0, .int 0, .ref vo])), (tp, .inl (G.2.1, 160, .inl (gPf tB 40))), (wo, .inl (G.2.1, 96, .inl (gPf tW 96)))] H := hP
  have hD : va_D A [(h0, .inr (6, [.int 0, .ref kd, .ref mo, .ref st, .int 0, .ref ro, .ref tp, .int 40, .ref cd, .ref sr, .int 0, .int 0, .int 0, .ref ir, .ref ih, .ref ss, .ref sq, .ref ce, .ref lw, .int 0, .int 0, .int 0, .int 0, .ref wo, .ref he, .int 0, .int 0, .int 0, .ref sk, .ref na, .ref kp, .int 0, .int 0, .int 0, .int 0, .ref gb, .ref go, .ref fa, .ref ga, .int 0, .int 0, .ref vo])), (tp, .inl (G.2.1, 160, .inl (gPf tB 40))), (wo, .inl (G.2.1, 96, .inl (gPf tW 96)))] := hD
  refine lv_aload_n hx hb dX6_next_70 rfl (lv_at hl 0 rfl) ?_
  refine va_get (D := G.1) (ci := 6) (v := .int 0) (C := RX6) (T := TX6) (N := 42) hx hb hts hiX6 hown hK hP 0 rfl rfl 19 (by decide) kf111 (fun _ h9 => h9) rfl dX6_next_71 ?_
  refine lv_aload_n hx hb dX6_next_74 rfl (lv_at hl 0 rfl) ?_
  refine va_get (D := G.1) (ci := 6) (v := .int 40) (C := RX6) (T := TX6) (N := 42) hx hb hts hiX6 hown hK hP 0 rfl rfl 7 (by decide) kf80 (fun _ h9 => h9) rfl dX6_next_75 ?_
  refine lv_icmp_ne (tgt := 82) hx hb dX6_next_78 (by decide) (fun c_6 => ?_) (fun c_6 => ?_)
  rotate_left
  · exact absurd c_6 (by decide)
  refine lv_aload_n hx hb dX6_next_82 rfl (lv_at hl 0 rfl) ?_
  refine va_get (D := G.1) (ci := 6) (v := .ref tp) (C := RX6) (T := TX6) (N := 42) hx hb hts hiX6 hown hK hP 0 rfl rfl 6 (by decide) kf22 (fun _ h9 => h9) rfl dX6_next_83 ?_
  refine lv_aload_n hx hb dX6_next_86 rfl (lv_at hl 0 rfl) ?_
  refine va_get (D := G.1) (ci := 6) (v := .int 0) (C := RX6) (T := TX6) (N := 42) hx hb hts hiX6 hown hK hP 0 rfl rfl 19 (by decide) kf111 (fun _ h9 => h9) rfl dX6_next_87 ?_
  refine va_iald (D := G.1) hx hb hK hP 1 0 rfl rfl (i := 0) (gIn (by decide)) dX6_next_90 ?_
  refine lv_topi (fun v_7 ev_7 => ?_)
  have ev_7 : v_7 = 102 := ev_7.trans (by decide)
  subst ev_7
  refine lv_istore_n (lv' := [(1, .int 102), (0, .ref h0)]) hx hb dX6_next_91 rfl hl (by decide) rfl (fun ls hl => ?_)
  refine lv_iload_n hx hb dX6_next_92 rfl (lv_at hl 0 rfl) ?_
  refine lv_bipush (v := 97) hx hb dX6_next_93 (by decide) ?_
  refine lv_bipush (v := 122) hx hb dX6_next_95 (by decide) ?_
  have hPc : va_P G.1 vwCl [] H := hP.sub [] rfl
  have hDc : va_D A [] := hD.sub [] (by decide) rfl
  have hFc := va_free (wc := []) hD hS hA [] rfl
  refine va_calli (va_runS (As := [.int 102, .int 97, .int 122]) (rest := []) ⟨hx, hb, hml, hown, hts⟩ (c_X6_in_z2 l G H.size) (va_cwS 3 hts gX6_next_X6_in rfl rfl rfl (by decide +kernel) ⟨Nat.le_of_ble_eq_true rfl, Nat.le_of_ble_eq_true rfl⟩) ⟨gPre_blind, fun U hU hW => gPre_of hU hW hK hPc hDc⟩ rfl rfl hl.1 rfl (lv_room (Nat.le_of_ble_eq_true rfl)) dX6_next_97 ⟨Nat.le_of_ble_eq_true rfl, Nat.le_of_ble_eq_true rfl⟩) hS (fun q _ h => hFc q h) hFc (fun r_8 u t H locs ht hvm w_9 hB hz1 hk1 hS => ?_)
  obtain ⟨hP1, hK1, hD1⟩ := hB
  rw [ht] at hP1
  have hP1 : va_P G.1 vwCl [] H := hP1
  have hD1 : va_D (va_A [] _) [] := hD1
  have w_9 : r_8 = 1 := w_9
  obtain ⟨hP, hD⟩ := va_join (wr := [(h0, .inr (6, [.int 0, .ref kd, .ref mo, .ref st, .int 0, .ref ro, .ref tp, .int 40, .ref cd, .ref sr, .int 0, .int 0, .int 0, .ref ir, .ref ih, .ref ss, .ref sq, .ref ce, .ref lw, .int 0, .int 0, .int 0, .int 0, .ref wo, .ref he, .int 0, .int 0, .int 0, .ref sk, .ref na, .ref kp, .int 0, .int 0, .int 0, .int 0, .ref gb, .ref go, .ref fa, .ref ga, .int 0, .int 0, .ref vo])), (tp, .inl (G.2.1, 160, .inl (gPf tB 40))), (wo, .inl (G.2.1, 96, .inl (gPf tW 96)))]) (w1 := []) hP hD [] [0, 1, 2] rfl rfl (by decide) (by decide) hk1 hFc hP1 hD1
  have hP : va_P G.1 vwCl [(h0, .inr (6, [.int 0, .ref kd, .ref mo, .ref st, .int 0, .ref ro, .ref tp, .int 40, .ref cd, .ref sr, .int 0, .int 0, .int 0, .ref ir, .ref ih, .ref ss, .ref sq, .ref ce, .ref lw, .int 0, .int 0, .int 0, .int 0, .ref wo, .ref he, .int 0, .int 0, .int 0, .ref sk, .ref na, .ref kp, .int 0, .int 0, .int 0, .int 0, .ref gb, .ref go, .ref fa, .ref ga, .int 0, .int 0, .ref vo])), (tp, .inl (G.2.1, 160, .inl (gPf tB 40))), (wo, .inl (G.2.1, 96, .inl (gPf tW 96)))] H := hP
  have hD : va_D A [(h0, .inr (6, [.int 0, .ref kd, .ref mo, .ref st, .int 0, .ref ro, .ref tp, .int 40, .ref cd, .ref sr, .int 0, .int 0, .int 0, .ref ir, .ref ih, .ref ss, .ref sq, .ref ce, .ref lw, .int 0, .int 0, .int 0, .int 0, .ref wo, .ref he, .int 0, .int 0, .int 0, .ref sk, .ref na, .ref kp, .int 0, .int 0, .int 0, .int 0, .ref gb, .ref go, .ref fa, .ref ga, .int 0, .int 0, .ref vo])), (tp, .inl (G.2.1, 160, .inl (gPf tB 40))), (wo, .inl (G.2.1, 96, .inl (gPf tW 96)))] := hD
  have w_9 : r_8 = 1 := w_9
  subst w_9
  refine lv_if_eq (tgt := 217) hx hb dX6_next_100 (by decide) (fun c_10 => ?_) (fun c_10 => ?_)
  · exact absurd c_10 (by decide)
  refine lv_aload_n hx hb dX6_next_103 rfl (lv_at hl 1 rfl) ?_
  refine va_get (D := G.1) (ci := 6) (v := .int 0) (C := RX6) (T := TX6) (N := 42) hx hb hts hiX6 hown hK hP 0 rfl rfl 19 (by decide) kf111 (fun _ h9 => h9) rfl dX6_next_104 ?_
  refine lv_aload_n hx hb dX6_next_107 rfl (lv_at hl 1 rfl) ?_
  refine va_get (D := G.1) (ci := 6) (v := .int 40) (C := RX6) (T := TX6) (N := 42) hx hb hts hiX6 hown hK hP 0 rfl rfl 7 (by decide) kf80 (fun _ h9 => h9) rfl dX6_next_108 ?_
  refine lv_icmp_ge (tgt := 146) hx hb dX6_next_111 (by decide) (fun c_11 => ?_) (fun c_11 => ?_)
  · exact absurd c_11 (by decide)
  refine lv_aload_n hx hb dX6_next_114 rfl (lv_at hl 1 rfl) ?_
  refine va_get (D := G.1) (ci := 6) (v := .ref tp) (C := RX6) (T := TX6) (N := 42) hx hb hts hiX6 hown hK hP 0 rfl rfl 6 (by decide) kf22 (fun _ h9 => h9) rfl dX6_next_115 ?_
  refine lv_aload_n hx hb dX6_next_118 rfl (lv_at hl 1 rfl) ?_
  refine va_get (D := G.1) (ci := 6) (v := .int 0) (C := RX6) (T := TX6) (N := 42) hx hb hts hiX6 hown hK hP 0 rfl rfl 19 (by decide) kf111 (fun _ h9 => h9) rfl dX6_next_119 ?_
  refine va_iald (D := G.1) hx hb hK hP 1 0 rfl rfl (i := 0) (gIn (by decide)) dX6_next_122 ?_
  refine lv_topi (fun v_12 ev_12 => ?_)
  have ev_12 : v_12 = 102 := ev_12.trans (by decide)
  subst ev_12
  refine lv_bipush (v := 97) hx hb dX6_next_123 (by decide) ?_
  refine lv_bipush (v := 122) hx hb dX6_next_125 (by decide) ?_
  have hPc : va_P G.1 vwCl [] H := hP.sub [] rfl
  have hDc : va_D A [] := hD.sub [] (by decide) rfl
  have hFc := va_free (wc := []) hD hS hA [] rfl
  refine va_calli (va_runS (As := [.int 102, .int 97, .int 122]) (rest := []) ⟨hx, hb, hml, hown, hts⟩ (c_X6_in_z2 l G H.size) (va_cwS 3 hts gX6_next_X6_in rfl rfl rfl (by decide +kernel) ⟨Nat.le_of_ble_eq_true rfl, Nat.le_of_ble_eq_true rfl⟩) ⟨gPre_blind, fun U hU hW => gPre_of hU hW hK hPc hDc⟩ rfl rfl hl.1 rfl (lv_room (Nat.le_of_ble_eq_true rfl)) dX6_next_127 ⟨Nat.le_of_ble_eq_true rfl, Nat.le_of_ble_eq_true rfl⟩) hS (fun q _ h => hFc q h) hFc (fun r_13 u t H locs ht hvm w_14 hB hz1 hk1 hS => ?_)
  obtain ⟨hP1, hK1, hD1⟩ := hB
  rw [ht] at hP1
  have hP1 : va_P G.1 vwCl [] H := hP1
  have hD1 : va_D (va_A [] _) [] := hD1
  have w_14 : r_13 = 1 := w_14
  obtain ⟨hP, hD⟩ := va_join (wr := [(h0, .inr (6, [.int 0, .ref kd, .ref mo, .ref st, .int 0, .ref ro, .ref tp, .int 40, .ref cd, .ref sr, .int 0, .int 0, .int 0, .ref ir, .ref ih, .ref ss, .ref sq, .ref ce, .ref lw, .int 0, .int 0, .int 0, .int 0, .ref wo, .ref he, .int 0, .int 0, .int 0, .ref sk, .ref na, .ref kp, .int 0, .int 0, .int 0, .int 0, .ref gb, .ref go, .ref fa, .ref ga, .int 0, .int 0, .ref vo])), (tp, .inl (G.2.1, 160, .inl (gPf tB 40))), (wo, .inl (G.2.1, 96, .inl (gPf tW 96)))]) (w1 := []) hP hD [] [0, 1, 2] rfl rfl (by decide) (by decide) hk1 hFc hP1 hD1
  have hP : va_P G.1 vwCl [(h0, .inr (6, [.int 0, .ref kd, .ref mo, .ref st, .int 0, .ref ro, .ref tp, .int 40, .ref cd, .ref sr, .int 0, .int 0, .int 0, .ref ir, .ref ih, .ref ss, .ref sq, .ref ce, .ref lw, .int 0, .int 0, .int 0, .int 0, .ref wo, .ref he, .int 0, .int 0, .int 0, .ref sk, .ref na, .ref kp, .int 0, .int 0, .int 0, .int 0, .ref gb, .ref go, .ref fa, .ref ga, .int 0, .int 0, .ref vo])), (tp, .inl (G.2.1, 160, .inl (gPf tB 40))), (wo, .inl (G.2.1, 96, .inl (gPf tW 96)))] H := hP
  have hD : va_D A [(h0, .inr (6, [.int 0, .ref kd, .ref mo, .ref st, .int 0, .ref ro, .ref tp, .int 40, .ref cd, .ref sr, .int 0, .int 0, .int 0, .ref ir, .ref ih, .ref ss, .ref sq, .ref ce, .ref lw, .int 0, .int 0, .int 0, .int 0, .ref wo, .ref he, .int 0, .int 0, .int 0, .ref sk, .ref na, .ref kp, .int 0, .int 0, .int 0, .int 0, .ref gb, .ref go, .ref fa, .ref ga, .int 0, .int 0, .ref vo])), (tp, .inl (G.2.1, 160, .inl (gPf tB 40))), (wo, .inl (G.2.1, 96, .inl (gPf tW 96)))] := hD
  have w_14 : r_13 = 1 := w_14
  subst w_14
  refine lv_if_eq (tgt := 146) hx hb dX6_next_130 (by decide) (fun c_15 => ?_) (fun c_15 => ?_)
  · exact absurd c_15 (by decide)
  refine lv_aload_n hx hb dX6_next_133 rfl (lv_at hl 1 rfl) ?_
  refine lv_dup hx hb dX6_next_134 rfl ?_
  refine va_get (D := G.1) (ci := 6) (v := .int 0) (C := RX6) (T := TX6) (N := 42) hx hb hts hiX6 hown hK hP 0 rfl rfl 19 (by decide) kf111 (fun _ h9 => h9) rfl dX6_next_135 ?_
  refine lv_iconst (v := 1) hx hb dX6_next_138 (by decide) ?_
  refine lv_iadd hx hb dX6_next_139 ?_
  refine lv_topi (fun v_16 ev_16 => ?_)
  have ev_16 : v_16 = 1 := ev_16.trans (by decide)
  subst ev_16
  refine va_put (D := G.1) (ci := 6) (v := .int 1) (ty := .int) (C := RX6) (T := TX6) (N := 42) hx hb hts hiX6 tyX6 tyX6_ok nmX6 hown hK hP hD hS 0 rfl rfl 19 (by decide) kf111 (fun _ h9 => h9) rfl (by decide +kernel) rfl rfl (Nat.le_of_ble_eq_true rfl) dX6_next_140 (fun H locs hP hD hS => ?_)
  have hP : va_P G.1 vwCl [(h0, .inr (6, [.int 0, .ref kd, .ref mo, .ref st, .int 0, .ref ro, .ref tp, .int 40, .ref cd, .ref sr, .int 0, .int 0, .int 0, .ref ir, .ref ih, .ref ss, .ref sq, .ref ce, .ref lw, .int 1, .int 0, .int 0, .int 0, .ref wo, .ref he, .int 0, .int 0, .int 0, .ref sk, .ref na, .ref kp, .int 0, .int 0, .int 0, .int 0, .ref gb, .ref go, .ref fa, .ref ga, .int 0, .int 0, .ref vo])), (tp, .inl (G.2.1, 160, .inl (gPf tB 40))), (wo, .inl (G.2.1, 96, .inl (gPf tW 96)))] H := hP
  have hD : va_D A [(h0, .inr (6, [.int 0, .ref kd, .ref mo, .ref st, .int 0, .ref ro, .ref tp, .int 40, .ref cd, .ref sr, .int 0, .int 0, .int 0, .ref ir, .ref ih, .ref ss, .ref sq, .ref ce, .ref lw, .int 1, .int 0, .int 0, .int 0, .ref wo, .ref he, .int 0, .int 0, .int 0, .ref sk, .ref na, .ref kp, .int 0, .int 0, .int 0, .int 0, .ref gb, .ref go, .ref fa, .ref ga, .int 0, .int 0, .ref vo])), (tp, .inl (G.2.1, 160, .inl (gPf tB 40))), (wo, .inl (G.2.1, 96, .inl (gPf tW 96)))] := hD
  refine lv_goto (tgt := 103) hx hb dX6_next_143 (by decide) ?_
  refine lv_aload_n hx hb dX6_next_103 rfl (lv_at hl 1 rfl) ?_
  refine va_get (D := G.1) (ci := 6) (v := .int 1) (C := RX6) (T := TX6) (N := 42) hx hb hts hiX6 hown hK hP 0 rfl rfl 19 (by decide) kf111 (fun _ h9 => h9) rfl dX6_next_104 ?_
  refine lv_aload_n hx hb dX6_next_107 rfl (lv_at hl 1 rfl) ?_
  refine va_get (D := G.1) (ci := 6) (v := .int 40) (C := RX6) (T := TX6) (N := 42) hx hb hts hiX6 hown hK hP 0 rfl rfl 7 (by decide) kf80 (fun _ h9 => h9) rfl dX6_next_108 ?_
  refine lv_icmp_ge (tgt := 146) hx hb dX6_next_111 (by decide) (fun c_17 => ?_) (fun c_17 => ?_)
  · exact absurd c_17 (by decide)
  refine lv_aload_n hx hb dX6_next_114 rfl (lv_at hl 1 rfl) ?_
  refine va_get (D := G.1) (ci := 6) (v := .ref tp) (C := RX6) (T := TX6) (N := 42) hx hb hts hiX6 hown hK hP 0 rfl rfl 6 (by decide) kf22 (fun _ h9 => h9) rfl dX6_next_115 ?_
  refine lv_aload_n hx hb dX6_next_118 rfl (lv_at hl 1 rfl) ?_
  refine va_get (D := G.1) (ci := 6) (v := .int 1) (C := RX6) (T := TX6) (N := 42) hx hb hts hiX6 hown hK hP 0 rfl rfl 19 (by decide) kf111 (fun _ h9 => h9) rfl dX6_next_119 ?_
  refine va_iald (D := G.1) hx hb hK hP 1 0 rfl rfl (i := 1) (gIn (by decide)) dX6_next_122 ?_
  refine lv_topi (fun v_18 ev_18 => ?_)
  have ev_18 : v_18 = 101 := ev_18.trans (by decide)
  subst ev_18
  refine lv_bipush (v := 97) hx hb dX6_next_123 (by decide) ?_
  refine lv_bipush (v := 122) hx hb dX6_next_125 (by decide) ?_
  have hPc : va_P G.1 vwCl [] H := hP.sub [] rfl
  have hDc : va_D A [] := hD.sub [] (by decide) rfl
  have hFc := va_free (wc := []) hD hS hA [] rfl
  refine va_calli (va_runS (As := [.int 101, .int 97, .int 122]) (rest := []) ⟨hx, hb, hml, hown, hts⟩ (c_X6_in_z3 l G H.size) (va_cwS 3 hts gX6_next_X6_in rfl rfl rfl (by decide +kernel) ⟨Nat.le_of_ble_eq_true rfl, Nat.le_of_ble_eq_true rfl⟩) ⟨gPre_blind, fun U hU hW => gPre_of hU hW hK hPc hDc⟩ rfl rfl hl.1 rfl (lv_room (Nat.le_of_ble_eq_true rfl)) dX6_next_127 ⟨Nat.le_of_ble_eq_true rfl, Nat.le_of_ble_eq_true rfl⟩) hS (fun q _ h => hFc q h) hFc (fun r_19 u t H locs ht hvm w_20 hB hz1 hk1 hS => ?_)
  obtain ⟨hP1, hK1, hD1⟩ := hB
  rw [ht] at hP1
  have hP1 : va_P G.1 vwCl [] H := hP1
  have hD1 : va_D (va_A [] _) [] := hD1
  have w_20 : r_19 = 1 := w_20
  obtain ⟨hP, hD⟩ := va_join (wr := [(h0, .inr (6, [.int 0, .ref kd, .ref mo, .ref st, .int 0, .ref ro, .ref tp, .int 40, .ref cd, .ref sr, .int 0, .int 0, .int 0, .ref ir, .ref ih, .ref ss, .ref sq, .ref ce, .ref lw, .int 1, .int 0, .int 0, .int 0, .ref wo, .ref he, .int 0, .int 0, .int 0, .ref sk, .ref na, .ref kp, .int 0, .int 0, .int 0, .int 0, .ref gb, .ref go, .ref fa, .ref ga, .int 0, .int 0, .ref vo])), (tp, .inl (G.2.1, 160, .inl (gPf tB 40))), (wo, .inl (G.2.1, 96, .inl (gPf tW 96)))]) (w1 := []) hP hD [] [0, 1, 2] rfl rfl (by decide) (by decide) hk1 hFc hP1 hD1
  have hP : va_P G.1 vwCl [(h0, .inr (6, [.int 0, .ref kd, .ref mo, .ref st, .int 0, .ref ro, .ref tp, .int 40, .ref cd, .ref sr, .int 0, .int 0, .int 0, .ref ir, .ref ih, .ref ss, .ref sq, .ref ce, .ref lw, .int 1, .int 0, .int 0, .int 0, .ref wo, .ref he, .int 0, .int 0, .int 0, .ref sk, .ref na, .ref kp, .int 0, .int 0, .int 0, .int 0, .ref gb, .ref go, .ref fa, .ref ga, .int 0, .int 0, .ref vo])), (tp, .inl (G.2.1, 160, .inl (gPf tB 40))), (wo, .inl (G.2.1, 96, .inl (gPf tW 96)))] H := hP
  have hD : va_D A [(h0, .inr (6, [.int 0, .ref kd, .ref mo, .ref st, .int 0, .ref ro, .ref tp, .int 40, .ref cd, .ref sr, .int 0, .int 0, .int 0, .ref ir, .ref ih, .ref ss, .ref sq, .ref ce, .ref lw, .int 1, .int 0, .int 0, .int 0, .ref wo, .ref he, .int 0, .int 0, .int 0, .ref sk, .ref na, .ref kp, .int 0, .int 0, .int 0, .int 0, .ref gb, .ref go, .ref fa, .ref ga, .int 0, .int 0, .ref vo])), (tp, .inl (G.2.1, 160, .inl (gPf tB 40))), (wo, .inl (G.2.1, 96, .inl (gPf tW 96)))] := hD
  have w_20 : r_19 = 1 := w_20
  subst w_20
  refine lv_if_eq (tgt := 146) hx hb dX6_next_130 (by decide) (fun c_21 => ?_) (fun c_21 => ?_)
  · exact absurd c_21 (by decide)
  refine lv_aload_n hx hb dX6_next_133 rfl (lv_at hl 1 rfl) ?_
  refine lv_dup hx hb dX6_next_134 rfl ?_
  refine va_get (D := G.1) (ci := 6) (v := .int 1) (C := RX6) (T := TX6) (N := 42) hx hb hts hiX6 hown hK hP 0 rfl rfl 19 (by decide) kf111 (fun _ h9 => h9) rfl dX6_next_135 ?_
  refine lv_iconst (v := 1) hx hb dX6_next_138 (by decide) ?_
  refine lv_iadd hx hb dX6_next_139 ?_
  refine lv_topi (fun v_22 ev_22 => ?_)
  have ev_22 : v_22 = 2 := ev_22.trans (by decide)
  subst ev_22
  refine va_put (D := G.1) (ci := 6) (v := .int 2) (ty := .int) (C := RX6) (T := TX6) (N := 42) hx hb hts hiX6 tyX6 tyX6_ok nmX6 hown hK hP hD hS 0 rfl rfl 19 (by decide) kf111 (fun _ h9 => h9) rfl (by decide +kernel) rfl rfl (Nat.le_of_ble_eq_true rfl) dX6_next_140 (fun H locs hP hD hS => ?_)
  have hP : va_P G.1 vwCl [(h0, .inr (6, [.int 0, .ref kd, .ref mo, .ref st, .int 0, .ref ro, .ref tp, .int 40, .ref cd, .ref sr, .int 0, .int 0, .int 0, .ref ir, .ref ih, .ref ss, .ref sq, .ref ce, .ref lw, .int 2, .int 0, .int 0, .int 0, .ref wo, .ref he, .int 0, .int 0, .int 0, .ref sk, .ref na, .ref kp, .int 0, .int 0, .int 0, .int 0, .ref gb, .ref go, .ref fa, .ref ga, .int 0, .int 0, .ref vo])), (tp, .inl (G.2.1, 160, .inl (gPf tB 40))), (wo, .inl (G.2.1, 96, .inl (gPf tW 96)))] H := hP
  have hD : va_D A [(h0, .inr (6, [.int 0, .ref kd, .ref mo, .ref st, .int 0, .ref ro, .ref tp, .int 40, .ref cd, .ref sr, .int 0, .int 0, .int 0, .ref ir, .ref ih, .ref ss, .ref sq, .ref ce, .ref lw, .int 2, .int 0, .int 0, .int 0, .ref wo, .ref he, .int 0, .int 0, .int 0, .ref sk, .ref na, .ref kp, .int 0, .int 0, .int 0, .int 0, .ref gb, .ref go, .ref fa, .ref ga, .int 0, .int 0, .ref vo])), (tp, .inl (G.2.1, 160, .inl (gPf tB 40))), (wo, .inl (G.2.1, 96, .inl (gPf tW 96)))] := hD
  refine lv_goto (tgt := 103) hx hb dX6_next_143 (by decide) ?_
  refine lv_aload_n hx hb dX6_next_103 rfl (lv_at hl 1 rfl) ?_
  refine va_get (D := G.1) (ci := 6) (v := .int 2) (C := RX6) (T := TX6) (N := 42) hx hb hts hiX6 hown hK hP 0 rfl rfl 19 (by decide) kf111 (fun _ h9 => h9) rfl dX6_next_104 ?_
  refine lv_aload_n hx hb dX6_next_107 rfl (lv_at hl 1 rfl) ?_
  refine va_get (D := G.1) (ci := 6) (v := .int 40) (C := RX6) (T := TX6) (N := 42) hx hb hts hiX6 hown hK hP 0 rfl rfl 7 (by decide) kf80 (fun _ h9 => h9) rfl dX6_next_108 ?_
  refine lv_icmp_ge (tgt := 146) hx hb dX6_next_111 (by decide) (fun c_23 => ?_) (fun c_23 => ?_)
  · exact absurd c_23 (by decide)
  refine lv_aload_n hx hb dX6_next_114 rfl (lv_at hl 1 rfl) ?_
  refine va_get (D := G.1) (ci := 6) (v := .ref tp) (C := RX6) (T := TX6) (N := 42) hx hb hts hiX6 hown hK hP 0 rfl rfl 6 (by decide) kf22 (fun _ h9 => h9) rfl dX6_next_115 ?_
  refine lv_aload_n hx hb dX6_next_118 rfl (lv_at hl 1 rfl) ?_
  refine va_get (D := G.1) (ci := 6) (v := .int 2) (C := RX6) (T := TX6) (N := 42) hx hb hts hiX6 hown hK hP 0 rfl rfl 19 (by decide) kf111 (fun _ h9 => h9) rfl dX6_next_119 ?_
  refine va_iald (D := G.1) hx hb hK hP 1 0 rfl rfl (i := 2) (gIn (by decide)) dX6_next_122 ?_
  refine lv_topi (fun v_24 ev_24 => ?_)
  have ev_24 : v_24 = 101 := ev_24.trans (by decide)
  subst ev_24
  refine lv_bipush (v := 97) hx hb dX6_next_123 (by decide) ?_
  refine lv_bipush (v := 122) hx hb dX6_next_125 (by decide) ?_
  have hPc : va_P G.1 vwCl [] H := hP.sub [] rfl
  have hDc : va_D A [] := hD.sub [] (by decide) rfl
  have hFc := va_free (wc := []) hD hS hA [] rfl
  refine va_calli (va_runS (As := [.int 101, .int 97, .int 122]) (rest := []) ⟨hx, hb, hml, hown, hts⟩ (c_X6_in_z3 l G H.size) (va_cwS 3 hts gX6_next_X6_in rfl rfl rfl (by decide +kernel) ⟨Nat.le_of_ble_eq_true rfl, Nat.le_of_ble_eq_true rfl⟩) ⟨gPre_blind, fun U hU hW => gPre_of hU hW hK hPc hDc⟩ rfl rfl hl.1 rfl (lv_room (Nat.le_of_ble_eq_true rfl)) dX6_next_127 ⟨Nat.le_of_ble_eq_true rfl, Nat.le_of_ble_eq_true rfl⟩) hS (fun q _ h => hFc q h) hFc (fun r_25 u t H locs ht hvm w_26 hB hz1 hk1 hS => ?_)
  obtain ⟨hP1, hK1, hD1⟩ := hB
  rw [ht] at hP1
  have hP1 : va_P G.1 vwCl [] H := hP1
  have hD1 : va_D (va_A [] _) [] := hD1
  have w_26 : r_25 = 1 := w_26
  obtain ⟨hP, hD⟩ := va_join (wr := [(h0, .inr (6, [.int 0, .ref kd, .ref mo, .ref st, .int 0, .ref ro, .ref tp, .int 40, .ref cd, .ref sr, .int 0, .int 0, .int 0, .ref ir, .ref ih, .ref ss, .ref sq, .ref ce, .ref lw, .int 2, .int 0, .int 0, .int 0, .ref wo, .ref he, .int 0, .int 0, .int 0, .ref sk, .ref na, .ref kp, .int 0, .int 0, .int 0, .int 0, .ref gb, .ref go, .ref fa, .ref ga, .int 0, .int 0, .ref vo])), (tp, .inl (G.2.1, 160, .inl (gPf tB 40))), (wo, .inl (G.2.1, 96, .inl (gPf tW 96)))]) (w1 := []) hP hD [] [0, 1, 2] rfl rfl (by decide) (by decide) hk1 hFc hP1 hD1
  have hP : va_P G.1 vwCl [(h0, .inr (6, [.int 0, .ref kd, .ref mo, .ref st, .int 0, .ref ro, .ref tp, .int 40, .ref cd, .ref sr, .int 0, .int 0, .int 0, .ref ir, .ref ih, .ref ss, .ref sq, .ref ce, .ref lw, .int 2, .int 0, .int 0, .int 0, .ref wo, .ref he, .int 0, .int 0, .int 0, .ref sk, .ref na, .ref kp, .int 0, .int 0, .int 0, .int 0, .ref gb, .ref go, .ref fa, .ref ga, .int 0, .int 0, .ref vo])), (tp, .inl (G.2.1, 160, .inl (gPf tB 40))), (wo, .inl (G.2.1, 96, .inl (gPf tW 96)))] H := hP
  have hD : va_D A [(h0, .inr (6, [.int 0, .ref kd, .ref mo, .ref st, .int 0, .ref ro, .ref tp, .int 40, .ref cd, .ref sr, .int 0, .int 0, .int 0, .ref ir, .ref ih, .ref ss, .ref sq, .ref ce, .ref lw, .int 2, .int 0, .int 0, .int 0, .ref wo, .ref he, .int 0, .int 0, .int 0, .ref sk, .ref na, .ref kp, .int 0, .int 0, .int 0, .int 0, .ref gb, .ref go, .ref fa, .ref ga, .int 0, .int 0, .ref vo])), (tp, .inl (G.2.1, 160, .inl (gPf tB 40))), (wo, .inl (G.2.1, 96, .inl (gPf tW 96)))] := hD
  have w_26 : r_25 = 1 := w_26
  subst w_26
  refine lv_if_eq (tgt := 146) hx hb dX6_next_130 (by decide) (fun c_27 => ?_) (fun c_27 => ?_)
  · exact absurd c_27 (by decide)
  refine lv_aload_n hx hb dX6_next_133 rfl (lv_at hl 1 rfl) ?_
  refine lv_dup hx hb dX6_next_134 rfl ?_
  refine va_get (D := G.1) (ci := 6) (v := .int 2) (C := RX6) (T := TX6) (N := 42) hx hb hts hiX6 hown hK hP 0 rfl rfl 19 (by decide) kf111 (fun _ h9 => h9) rfl dX6_next_135 ?_
  refine lv_iconst (v := 1) hx hb dX6_next_138 (by decide) ?_
  refine lv_iadd hx hb dX6_next_139 ?_
  refine lv_topi (fun v_28 ev_28 => ?_)
  have ev_28 : v_28 = 3 := ev_28.trans (by decide)
  subst ev_28
  refine va_put (D := G.1) (ci := 6) (v := .int 3) (ty := .int) (C := RX6) (T := TX6) (N := 42) hx hb hts hiX6 tyX6 tyX6_ok nmX6 hown hK hP hD hS 0 rfl rfl 19 (by decide) kf111 (fun _ h9 => h9) rfl (by decide +kernel) rfl rfl (Nat.le_of_ble_eq_true rfl) dX6_next_140 (fun H locs hP hD hS => ?_)
  have hP : va_P G.1 vwCl [(h0, .inr (6, [.int 0, .ref kd, .ref mo, .ref st, .int 0, .ref ro, .ref tp, .int 40, .ref cd, .ref sr, .int 0, .int 0, .int 0, .ref ir, .ref ih, .ref ss, .ref sq, .ref ce, .ref lw, .int 3, .int 0, .int 0, .int 0, .ref wo, .ref he, .int 0, .int 0, .int 0, .ref sk, .ref na, .ref kp, .int 0, .int 0, .int 0, .int 0, .ref gb, .ref go, .ref fa, .ref ga, .int 0, .int 0, .ref vo])), (tp, .inl (G.2.1, 160, .inl (gPf tB 40))), (wo, .inl (G.2.1, 96, .inl (gPf tW 96)))] H := hP
  have hD : va_D A [(h0, .inr (6, [.int 0, .ref kd, .ref mo, .ref st, .int 0, .ref ro, .ref tp, .int 40, .ref cd, .ref sr, .int 0, .int 0, .int 0, .ref ir, .ref ih, .ref ss, .ref sq, .ref ce, .ref lw, .int 3, .int 0, .int 0, .int 0, .ref wo, .ref he, .int 0, .int 0, .int 0, .ref sk, .ref na, .ref kp, .int 0, .int 0, .int 0, .int 0, .ref gb, .ref go, .ref fa, .ref ga, .int 0, .int 0, .ref vo])), (tp, .inl (G.2.1, 160, .inl (gPf tB 40))), (wo, .inl (G.2.1, 96, .inl (gPf tW 96)))] := hD
  refine lv_goto (tgt := 103) hx hb dX6_next_143 (by decide) ?_
  refine lv_aload_n hx hb dX6_next_103 rfl (lv_at hl 1 rfl) ?_
  refine va_get (D := G.1) (ci := 6) (v := .int 3) (C := RX6) (T := TX6) (N := 42) hx hb hts hiX6 hown hK hP 0 rfl rfl 19 (by decide) kf111 (fun _ h9 => h9) rfl dX6_next_104 ?_
  refine lv_aload_n hx hb dX6_next_107 rfl (lv_at hl 1 rfl) ?_
  refine va_get (D := G.1) (ci := 6) (v := .int 40) (C := RX6) (T := TX6) (N := 42) hx hb hts hiX6 hown hK hP 0 rfl rfl 7 (by decide) kf80 (fun _ h9 => h9) rfl dX6_next_108 ?_
  refine lv_icmp_ge (tgt := 146) hx hb dX6_next_111 (by decide) (fun c_29 => ?_) (fun c_29 => ?_)
  · exact absurd c_29 (by decide)
  refine lv_aload_n hx hb dX6_next_114 rfl (lv_at hl 1 rfl) ?_
  refine va_get (D := G.1) (ci := 6) (v := .ref tp) (C := RX6) (T := TX6) (N := 42) hx hb hts hiX6 hown hK hP 0 rfl rfl 6 (by decide) kf22 (fun _ h9 => h9) rfl dX6_next_115 ?_
  refine lv_aload_n hx hb dX6_next_118 rfl (lv_at hl 1 rfl) ?_
  refine va_get (D := G.1) (ci := 6) (v := .int 3) (C := RX6) (T := TX6) (N := 42) hx hb hts hiX6 hown hK hP 0 rfl rfl 19 (by decide) kf111 (fun _ h9 => h9) rfl dX6_next_119 ?_
  refine va_iald (D := G.1) hx hb hK hP 1 0 rfl rfl (i := 3) (gIn (by decide)) dX6_next_122 ?_
  refine lv_topi (fun v_30 ev_30 => ?_)
  have ev_30 : v_30 = 108 := ev_30.trans (by decide)
  subst ev_30
  refine lv_bipush (v := 97) hx hb dX6_next_123 (by decide) ?_
  refine lv_bipush (v := 122) hx hb dX6_next_125 (by decide) ?_
  have hPc : va_P G.1 vwCl [] H := hP.sub [] rfl
  have hDc : va_D A [] := hD.sub [] (by decide) rfl
  have hFc := va_free (wc := []) hD hS hA [] rfl
  refine va_calli (va_runS (As := [.int 108, .int 97, .int 122]) (rest := []) ⟨hx, hb, hml, hown, hts⟩ (c_X6_in_z4 l G H.size) (va_cwS 3 hts gX6_next_X6_in rfl rfl rfl (by decide +kernel) ⟨Nat.le_of_ble_eq_true rfl, Nat.le_of_ble_eq_true rfl⟩) ⟨gPre_blind, fun U hU hW => gPre_of hU hW hK hPc hDc⟩ rfl rfl hl.1 rfl (lv_room (Nat.le_of_ble_eq_true rfl)) dX6_next_127 ⟨Nat.le_of_ble_eq_true rfl, Nat.le_of_ble_eq_true rfl⟩) hS (fun q _ h => hFc q h) hFc (fun r_31 u t H locs ht hvm w_32 hB hz1 hk1 hS => ?_)
  obtain ⟨hP1, hK1, hD1⟩ := hB
  rw [ht] at hP1
  have hP1 : va_P G.1 vwCl [] H := hP1
  have hD1 : va_D (va_A [] _) [] := hD1
  have w_32 : r_31 = 1 := w_32
  obtain ⟨hP, hD⟩ := va_join (wr := [(h0, .inr (6, [.int 0, .ref kd, .ref mo, .ref st, .int 0, .ref ro, .ref tp, .int 40, .ref cd, .ref sr, .int 0, .int 0, .int 0, .ref ir, .ref ih, .ref ss, .ref sq, .ref ce, .ref lw, .int 3, .int 0, .int 0, .int 0, .ref wo, .ref he, .int 0, .int 0, .int 0, .ref sk, .ref na, .ref kp, .int 0, .int 0, .int 0, .int 0, .ref gb, .ref go, .ref fa, .ref ga, .int 0, .int 0, .ref vo])), (tp, .inl (G.2.1, 160, .inl (gPf tB 40))), (wo, .inl (G.2.1, 96, .inl (gPf tW 96)))]) (w1 := []) hP hD [] [0, 1, 2] rfl rfl (by decide) (by decide) hk1 hFc hP1 hD1
  have hP : va_P G.1 vwCl [(h0, .inr (6, [.int 0, .ref kd, .ref mo, .ref st, .int 0, .ref ro, .ref tp, .int 40, .ref cd, .ref sr, .int 0, .int 0, .int 0, .ref ir, .ref ih, .ref ss, .ref sq, .ref ce, .ref lw, .int 3, .int 0, .int 0, .int 0, .ref wo, .ref he, .int 0, .int 0, .int 0, .ref sk, .ref na, .ref kp, .int 0, .int 0, .int 0, .int 0, .ref gb, .ref go, .ref fa, .ref ga, .int 0, .int 0, .ref vo])), (tp, .inl (G.2.1, 160, .inl (gPf tB 40))), (wo, .inl (G.2.1, 96, .inl (gPf tW 96)))] H := hP
  have hD : va_D A [(h0, .inr (6, [.int 0, .ref kd, .ref mo, .ref st, .int 0, .ref ro, .ref tp, .int 40, .ref cd, .ref sr, .int 0, .int 0, .int 0, .ref ir, .ref ih, .ref ss, .ref sq, .ref ce, .ref lw, .int 3, .int 0, .int 0, .int 0, .ref wo, .ref he, .int 0, .int 0, .int 0, .ref sk, .ref na, .ref kp, .int 0, .int 0, .int 0, .int 0, .ref gb, .ref go, .ref fa, .ref ga, .int 0, .int 0, .ref vo])), (tp, .inl (G.2.1, 160, .inl (gPf tB 40))), (wo, .inl (G.2.1, 96, .inl (gPf tW 96)))] := hD
  have w_32 : r_31 = 1 := w_32
  subst w_32
  refine lv_if_eq (tgt := 146) hx hb dX6_next_130 (by decide) (fun c_33 => ?_) (fun c_33 => ?_)
  · exact absurd c_33 (by decide)
  refine lv_aload_n hx hb dX6_next_133 rfl (lv_at hl 1 rfl) ?_
  refine lv_dup hx hb dX6_next_134 rfl ?_
  refine va_get (D := G.1) (ci := 6) (v := .int 3) (C := RX6) (T := TX6) (N := 42) hx hb hts hiX6 hown hK hP 0 rfl rfl 19 (by decide) kf111 (fun _ h9 => h9) rfl dX6_next_135 ?_
  refine lv_iconst (v := 1) hx hb dX6_next_138 (by decide) ?_
  refine lv_iadd hx hb dX6_next_139 ?_
  refine lv_topi (fun v_34 ev_34 => ?_)
  have ev_34 : v_34 = 4 := ev_34.trans (by decide)
  subst ev_34
  refine va_put (D := G.1) (ci := 6) (v := .int 4) (ty := .int) (C := RX6) (T := TX6) (N := 42) hx hb hts hiX6 tyX6 tyX6_ok nmX6 hown hK hP hD hS 0 rfl rfl 19 (by decide) kf111 (fun _ h9 => h9) rfl (by decide +kernel) rfl rfl (Nat.le_of_ble_eq_true rfl) dX6_next_140 (fun H locs hP hD hS => ?_)
  have hP : va_P G.1 vwCl [(h0, .inr (6, [.int 0, .ref kd, .ref mo, .ref st, .int 0, .ref ro, .ref tp, .int 40, .ref cd, .ref sr, .int 0, .int 0, .int 0, .ref ir, .ref ih, .ref ss, .ref sq, .ref ce, .ref lw, .int 4, .int 0, .int 0, .int 0, .ref wo, .ref he, .int 0, .int 0, .int 0, .ref sk, .ref na, .ref kp, .int 0, .int 0, .int 0, .int 0, .ref gb, .ref go, .ref fa, .ref ga, .int 0, .int 0, .ref vo])), (tp, .inl (G.2.1, 160, .inl (gPf tB 40))), (wo, .inl (G.2.1, 96, .inl (gPf tW 96)))] H := hP
  have hD : va_D A [(h0, .inr (6, [.int 0, .ref kd, .ref mo, .ref st, .int 0, .ref ro, .ref tp, .int 40, .ref cd, .ref sr, .int 0, .int 0, .int 0, .ref ir, .ref ih, .ref ss, .ref sq, .ref ce, .ref lw, .int 4, .int 0, .int 0, .int 0, .ref wo, .ref he, .int 0, .int 0, .int 0, .ref sk, .ref na, .ref kp, .int 0, .int 0, .int 0, .int 0, .ref gb, .ref go, .ref fa, .ref ga, .int 0, .int 0, .ref vo])), (tp, .inl (G.2.1, 160, .inl (gPf tB 40))), (wo, .inl (G.2.1, 96, .inl (gPf tW 96)))] := hD
  refine lv_goto (tgt := 103) hx hb dX6_next_143 (by decide) ?_
  refine lv_aload_n hx hb dX6_next_103 rfl (lv_at hl 1 rfl) ?_
  refine va_get (D := G.1) (ci := 6) (v := .int 4) (C := RX6) (T := TX6) (N := 42) hx hb hts hiX6 hown hK hP 0 rfl rfl 19 (by decide) kf111 (fun _ h9 => h9) rfl dX6_next_104 ?_
  refine lv_aload_n hx hb dX6_next_107 rfl (lv_at hl 1 rfl) ?_
  refine va_get (D := G.1) (ci := 6) (v := .int 40) (C := RX6) (T := TX6) (N := 42) hx hb hts hiX6 hown hK hP 0 rfl rfl 7 (by decide) kf80 (fun _ h9 => h9) rfl dX6_next_108 ?_
  refine lv_icmp_ge (tgt := 146) hx hb dX6_next_111 (by decide) (fun c_35 => ?_) (fun c_35 => ?_)
  · exact absurd c_35 (by decide)
  refine lv_aload_n hx hb dX6_next_114 rfl (lv_at hl 1 rfl) ?_
  refine va_get (D := G.1) (ci := 6) (v := .ref tp) (C := RX6) (T := TX6) (N := 42) hx hb hts hiX6 hown hK hP 0 rfl rfl 6 (by decide) kf22 (fun _ h9 => h9) rfl dX6_next_115 ?_
  refine lv_aload_n hx hb dX6_next_118 rfl (lv_at hl 1 rfl) ?_
  refine va_get (D := G.1) (ci := 6) (v := .int 4) (C := RX6) (T := TX6) (N := 42) hx hb hts hiX6 hown hK hP 0 rfl rfl 19 (by decide) kf111 (fun _ h9 => h9) rfl dX6_next_119 ?_
  refine va_iald (D := G.1) hx hb hK hP 1 0 rfl rfl (i := 4) (gIn (by decide)) dX6_next_122 ?_
  refine lv_topi (fun v_36 ev_36 => ?_)
  have ev_36 : v_36 = 115 := ev_36.trans (by decide)
  subst ev_36
  refine lv_bipush (v := 97) hx hb dX6_next_123 (by decide) ?_
  refine lv_bipush (v := 122) hx hb dX6_next_125 (by decide) ?_
  have hPc : va_P G.1 vwCl [] H := hP.sub [] rfl
  have hDc : va_D A [] := hD.sub [] (by decide) rfl
  have hFc := va_free (wc := []) hD hS hA [] rfl
  refine va_calli (va_runS (As := [.int 115, .int 97, .int 122]) (rest := []) ⟨hx, hb, hml, hown, hts⟩ (c_X6_in_z5 l G H.size) (va_cwS 3 hts gX6_next_X6_in rfl rfl rfl (by decide +kernel) ⟨Nat.le_of_ble_eq_true rfl, Nat.le_of_ble_eq_true rfl⟩) ⟨gPre_blind, fun U hU hW => gPre_of hU hW hK hPc hDc⟩ rfl rfl hl.1 rfl (lv_room (Nat.le_of_ble_eq_true rfl)) dX6_next_127 ⟨Nat.le_of_ble_eq_true rfl, Nat.le_of_ble_eq_true rfl⟩) hS (fun q _ h => hFc q h) hFc (fun r_37 u t H locs ht hvm w_38 hB hz1 hk1 hS => ?_)
  obtain ⟨hP1, hK1, hD1⟩ := hB
  rw [ht] at hP1
  have hP1 : va_P G.1 vwCl [] H := hP1
  have hD1 : va_D (va_A [] _) [] := hD1
  have w_38 : r_37 = 1 := w_38
  obtain ⟨hP, hD⟩ := va_join (wr := [(h0, .inr (6, [.int 0, .ref kd, .ref mo, .ref st, .int 0, .ref ro, .ref tp, .int 40, .ref cd, .ref sr, .int 0, .int 0, .int 0, .ref ir, .ref ih, .ref ss, .ref sq, .ref ce, .ref lw, .int 4, .int 0, .int 0, .int 0, .ref wo, .ref he, .int 0, .int 0, .int 0, .ref sk, .ref na, .ref kp, .int 0, .int 0, .int 0, .int 0, .ref gb, .ref go, .ref fa, .ref ga, .int 0, .int 0, .ref vo])), (tp, .inl (G.2.1, 160, .inl (gPf tB 40))), (wo, .inl (G.2.1, 96, .inl (gPf tW 96)))]) (w1 := []) hP hD [] [0, 1, 2] rfl rfl (by decide) (by decide) hk1 hFc hP1 hD1
  have hP : va_P G.1 vwCl [(h0, .inr (6, [.int 0, .ref kd, .ref mo, .ref st, .int 0, .ref ro, .ref tp, .int 40, .ref cd, .ref sr, .int 0, .int 0, .int 0, .ref ir, .ref ih, .ref ss, .ref sq, .ref ce, .ref lw, .int 4, .int 0, .int 0, .int 0, .ref wo, .ref he, .int 0, .int 0, .int 0, .ref sk, .ref na, .ref kp, .int 0, .int 0, .int 0, .int 0, .ref gb, .ref go, .ref fa, .ref ga, .int 0, .int 0, .ref vo])), (tp, .inl (G.2.1, 160, .inl (gPf tB 40))), (wo, .inl (G.2.1, 96, .inl (gPf tW 96)))] H := hP
  have hD : va_D A [(h0, .inr (6, [.int 0, .ref kd, .ref mo, .ref st, .int 0, .ref ro, .ref tp, .int 40, .ref cd, .ref sr, .int 0, .int 0, .int 0, .ref ir, .ref ih, .ref ss, .ref sq, .ref ce, .ref lw, .int 4, .int 0, .int 0, .int 0, .ref wo, .ref he, .int 0, .int 0, .int 0, .ref sk, .ref na, .ref kp, .int 0, .int 0, .int 0, .int 0, .ref gb, .ref go, .ref fa, .ref ga, .int 0, .int 0, .ref vo])), (tp, .inl (G.2.1, 160, .inl (gPf tB 40))), (wo, .inl (G.2.1, 96, .inl (gPf tW 96)))] := hD
  have w_38 : r_37 = 1 := w_38
  subst w_38
  refine lv_if_eq (tgt := 146) hx hb dX6_next_130 (by decide) (fun c_39 => ?_) (fun c_39 => ?_)
  · exact absurd c_39 (by decide)
  refine lv_aload_n hx hb dX6_next_133 rfl (lv_at hl 1 rfl) ?_
  refine lv_dup hx hb dX6_next_134 rfl ?_
  refine va_get (D := G.1) (ci := 6) (v := .int 4) (C := RX6) (T := TX6) (N := 42) hx hb hts hiX6 hown hK hP 0 rfl rfl 19 (by decide) kf111 (fun _ h9 => h9) rfl dX6_next_135 ?_
  refine lv_iconst (v := 1) hx hb dX6_next_138 (by decide) ?_
  refine lv_iadd hx hb dX6_next_139 ?_
  refine lv_topi (fun v_40 ev_40 => ?_)
  have ev_40 : v_40 = 5 := ev_40.trans (by decide)
  subst ev_40
  refine va_put (D := G.1) (ci := 6) (v := .int 5) (ty := .int) (C := RX6) (T := TX6) (N := 42) hx hb hts hiX6 tyX6 tyX6_ok nmX6 hown hK hP hD hS 0 rfl rfl 19 (by decide) kf111 (fun _ h9 => h9) rfl (by decide +kernel) rfl rfl (Nat.le_of_ble_eq_true rfl) dX6_next_140 (fun H locs hP hD hS => ?_)
  have hP : va_P G.1 vwCl [(h0, .inr (6, [.int 0, .ref kd, .ref mo, .ref st, .int 0, .ref ro, .ref tp, .int 40, .ref cd, .ref sr, .int 0, .int 0, .int 0, .ref ir, .ref ih, .ref ss, .ref sq, .ref ce, .ref lw, .int 5, .int 0, .int 0, .int 0, .ref wo, .ref he, .int 0, .int 0, .int 0, .ref sk, .ref na, .ref kp, .int 0, .int 0, .int 0, .int 0, .ref gb, .ref go, .ref fa, .ref ga, .int 0, .int 0, .ref vo])), (tp, .inl (G.2.1, 160, .inl (gPf tB 40))), (wo, .inl (G.2.1, 96, .inl (gPf tW 96)))] H := hP
  have hD : va_D A [(h0, .inr (6, [.int 0, .ref kd, .ref mo, .ref st, .int 0, .ref ro, .ref tp, .int 40, .ref cd, .ref sr, .int 0, .int 0, .int 0, .ref ir, .ref ih, .ref ss, .ref sq, .ref ce, .ref lw, .int 5, .int 0, .int 0, .int 0, .ref wo, .ref he, .int 0, .int 0, .int 0, .ref sk, .ref na, .ref kp, .int 0, .int 0, .int 0, .int 0, .ref gb, .ref go, .ref fa, .ref ga, .int 0, .int 0, .ref vo])), (tp, .inl (G.2.1, 160, .inl (gPf tB 40))), (wo, .inl (G.2.1, 96, .inl (gPf tW 96)))] := hD
  refine lv_goto (tgt := 103) hx hb dX6_next_143 (by decide) ?_
  refine lv_aload_n hx hb dX6_next_103 rfl (lv_at hl 1 rfl) ?_
  refine va_get (D := G.1) (ci := 6) (v := .int 5) (C := RX6) (T := TX6) (N := 42) hx hb hts hiX6 hown hK hP 0 rfl rfl 19 (by decide) kf111 (fun _ h9 => h9) rfl dX6_next_104 ?_
  refine lv_aload_n hx hb dX6_next_107 rfl (lv_at hl 1 rfl) ?_
  refine va_get (D := G.1) (ci := 6) (v := .int 40) (C := RX6) (T := TX6) (N := 42) hx hb hts hiX6 hown hK hP 0 rfl rfl 7 (by decide) kf80 (fun _ h9 => h9) rfl dX6_next_108 ?_
  refine lv_icmp_ge (tgt := 146) hx hb dX6_next_111 (by decide) (fun c_41 => ?_) (fun c_41 => ?_)
  · exact absurd c_41 (by decide)
  refine lv_aload_n hx hb dX6_next_114 rfl (lv_at hl 1 rfl) ?_
  refine va_get (D := G.1) (ci := 6) (v := .ref tp) (C := RX6) (T := TX6) (N := 42) hx hb hts hiX6 hown hK hP 0 rfl rfl 6 (by decide) kf22 (fun _ h9 => h9) rfl dX6_next_115 ?_
  refine lv_aload_n hx hb dX6_next_118 rfl (lv_at hl 1 rfl) ?_
  refine va_get (D := G.1) (ci := 6) (v := .int 5) (C := RX6) (T := TX6) (N := 42) hx hb hts hiX6 hown hK hP 0 rfl rfl 19 (by decide) kf111 (fun _ h9 => h9) rfl dX6_next_119 ?_
  refine va_iald (D := G.1) hx hb hK hP 1 0 rfl rfl (i := 5) (gIn (by decide)) dX6_next_122 ?_
  refine lv_topi (fun v_42 ev_42 => ?_)
  have ev_42 : v_42 = 32 := ev_42.trans (by decide)
  subst ev_42
  refine lv_bipush (v := 97) hx hb dX6_next_123 (by decide) ?_
  refine lv_bipush (v := 122) hx hb dX6_next_125 (by decide) ?_
  have hPc : va_P G.1 vwCl [] H := hP.sub [] rfl
  have hDc : va_D A [] := hD.sub [] (by decide) rfl
  have hFc := va_free (wc := []) hD hS hA [] rfl
  refine va_calli (va_runS (As := [.int 32, .int 97, .int 122]) (rest := []) ⟨hx, hb, hml, hown, hts⟩ (c_X6_in_z6 l G H.size) (va_cwS 3 hts gX6_next_X6_in rfl rfl rfl (by decide +kernel) ⟨Nat.le_of_ble_eq_true rfl, Nat.le_of_ble_eq_true rfl⟩) ⟨gPre_blind, fun U hU hW => gPre_of hU hW hK hPc hDc⟩ rfl rfl hl.1 rfl (lv_room (Nat.le_of_ble_eq_true rfl)) dX6_next_127 ⟨Nat.le_of_ble_eq_true rfl, Nat.le_of_ble_eq_true rfl⟩) hS (fun q _ h => hFc q h) hFc (fun r_43 u t H locs ht hvm w_44 hB hz1 hk1 hS => ?_)
  obtain ⟨hP1, hK1, hD1⟩ := hB
  rw [ht] at hP1
  have hP1 : va_P G.1 vwCl [] H := hP1
  have hD1 : va_D (va_A [] _) [] := hD1
  have w_44 : r_43 = 0 := w_44
  obtain ⟨hP, hD⟩ := va_join (wr := [(h0, .inr (6, [.int 0, .ref kd, .ref mo, .ref st, .int 0, .ref ro, .ref tp, .int 40, .ref cd, .ref sr, .int 0, .int 0, .int 0, .ref ir, .ref ih, .ref ss, .ref sq, .ref ce, .ref lw, .int 5, .int 0, .int 0, .int 0, .ref wo, .ref he, .int 0, .int 0, .int 0, .ref sk, .ref na, .ref kp, .int 0, .int 0, .int 0, .int 0, .ref gb, .ref go, .ref fa, .ref ga, .int 0, .int 0, .ref vo])), (tp, .inl (G.2.1, 160, .inl (gPf tB 40))), (wo, .inl (G.2.1, 96, .inl (gPf tW 96)))]) (w1 := []) hP hD [] [0, 1, 2] rfl rfl (by decide) (by decide) hk1 hFc hP1 hD1
  have hP : va_P G.1 vwCl [(h0, .inr (6, [.int 0, .ref kd, .ref mo, .ref st, .int 0, .ref ro, .ref tp, .int 40, .ref cd, .ref sr, .int 0, .int 0, .int 0, .ref ir, .ref ih, .ref ss, .ref sq, .ref ce, .ref lw, .int 5, .int 0, .int 0, .int 0, .ref wo, .ref he, .int 0, .int 0, .int 0, .ref sk, .ref na, .ref kp, .int 0, .int 0, .int 0, .int 0, .ref gb, .ref go, .ref fa, .ref ga, .int 0, .int 0, .ref vo])), (tp, .inl (G.2.1, 160, .inl (gPf tB 40))), (wo, .inl (G.2.1, 96, .inl (gPf tW 96)))] H := hP
  have hD : va_D A [(h0, .inr (6, [.int 0, .ref kd, .ref mo, .ref st, .int 0, .ref ro, .ref tp, .int 40, .ref cd, .ref sr, .int 0, .int 0, .int 0, .ref ir, .ref ih, .ref ss, .ref sq, .ref ce, .ref lw, .int 5, .int 0, .int 0, .int 0, .ref wo, .ref he, .int 0, .int 0, .int 0, .ref sk, .ref na, .ref kp, .int 0, .int 0, .int 0, .int 0, .ref gb, .ref go, .ref fa, .ref ga, .int 0, .int 0, .ref vo])), (tp, .inl (G.2.1, 160, .inl (gPf tB 40))), (wo, .inl (G.2.1, 96, .inl (gPf tW 96)))] := hD
  have w_44 : r_43 = 0 := w_44
  subst w_44
  refine lv_if_eq (tgt := 146) hx hb dX6_next_130 (by decide) (fun c_45 => ?_) (fun c_45 => ?_)
  rotate_left
  · exact absurd (by decide) c_45
  refine lv_aload_n hx hb dX6_next_146 rfl (lv_at hl 1 rfl) ?_
  refine lv_aload_n hx hb dX6_next_147 rfl (lv_at hl 1 rfl) ?_
  refine va_get (D := G.1) (ci := 6) (v := .int 0) (C := RX6) (T := TX6) (N := 42) hx hb hts hiX6 hown hK hP 0 rfl rfl 20 (by decide) kf114 (fun _ h9 => h9) rfl dX6_next_148 ?_
  refine lv_aload_n hx hb dX6_next_151 rfl (lv_at hl 1 rfl) ?_
  refine va_get (D := G.1) (ci := 6) (v := .int 5) (C := RX6) (T := TX6) (N := 42) hx hb hts hiX6 hown hK hP 0 rfl rfl 19 (by decide) kf111 (fun _ h9 => h9) rfl dX6_next_152 ?_
  have hPc : va_P G.1 vwCl [(h0, .inr (6, [.int 0, .ref kd, .ref mo, .ref st, .int 0, .ref ro, .ref tp, .int 40, .ref cd, .ref sr, .int 0, .int 0, .int 0, .ref ir, .ref ih, .ref ss, .ref sq, .ref ce, .ref lw, .int 5, .int 0, .int 0, .int 0, .ref wo, .ref he, .int 0, .int 0, .int 0, .ref sk, .ref na, .ref kp, .int 0, .int 0, .int 0, .int 0, .ref gb, .ref go, .ref fa, .ref ga, .int 0, .int 0, .ref vo])), (tp, .inl (G.2.1, 160, .inl (gPf tB 40))), (wo, .inl (G.2.1, 96, .inl (gPf tW 96)))] H := hP.sub [0, 1, 2] rfl
  have hDc : va_D A [(h0, .inr (6, [.int 0, .ref kd, .ref mo, .ref st, .int 0, .ref ro, .ref tp, .int 40, .ref cd, .ref sr, .int 0, .int 0, .int 0, .ref ir, .ref ih, .ref ss, .ref sq, .ref ce, .ref lw, .int 5, .int 0, .int 0, .int 0, .ref wo, .ref he, .int 0, .int 0, .int 0, .ref sk, .ref na, .ref kp, .int 0, .int 0, .int 0, .int 0, .ref gb, .ref go, .ref fa, .ref ga, .int 0, .int 0, .ref vo])), (tp, .inl (G.2.1, 160, .inl (gPf tB 40))), (wo, .inl (G.2.1, 96, .inl (gPf tW 96)))] := hD.sub [0, 1, 2] (by decide) rfl
  have hFc := va_free (wc := [(h0, .inr (6, [.int 0, .ref kd, .ref mo, .ref st, .int 0, .ref ro, .ref tp, .int 40, .ref cd, .ref sr, .int 0, .int 0, .int 0, .ref ir, .ref ih, .ref ss, .ref sq, .ref ce, .ref lw, .int 5, .int 0, .int 0, .int 0, .ref wo, .ref he, .int 0, .int 0, .int 0, .ref sk, .ref na, .ref kp, .int 0, .int 0, .int 0, .int 0, .ref gb, .ref go, .ref fa, .ref ga, .int 0, .int 0, .ref vo])), (tp, .inl (G.2.1, 160, .inl (gPf tB 40))), (wo, .inl (G.2.1, 96, .inl (gPf tW 96)))]) hD hS hA [0, 1, 2] rfl
  refine va_calli (va_runV (As := [.int 0, .int 5]) (rest := []) ⟨hx, hb, hml, hown, hts⟩ (c_X6_wordFrom_z7 l G h0 kd mo st ro tp cd sr ir ih ss sq ce lw wo he sk na kp gb go fa ga vo H.size) (cwV 2 hts gX6_next_X6_wordFrom rfl rfl rfl (by decide +kernel) ⟨Nat.le_of_ble_eq_true rfl, Nat.le_of_ble_eq_true rfl⟩) ⟨gPre_blind, va_recv hK hPc (ci := 6) (q0 := 0) rfl rfl, fun U hU hW => gPre_of hU hW hK hPc hDc⟩ rfl rfl hl.1 rfl (lv_room (Nat.le_of_ble_eq_true rfl)) dX6_next_155 ⟨Nat.le_of_ble_eq_true rfl, Nat.le_of_ble_eq_true rfl⟩) hS (fun q _ h => hFc q h) hFc (fun r_46 u t H locs ht hvm w_47 hB hz1 hk1 hS => ?_)
  obtain ⟨hP1, hK1, hD1⟩ := hB
  rw [ht] at hP1
  have hP1 : va_P G.1 vwCl [(h0, .inr (6, [.int 0, .ref kd, .ref mo, .ref st, .int 0, .ref ro, .ref tp, .int 40, .ref cd, .ref sr, .int 0, .int 0, .int 0, .ref ir, .ref ih, .ref ss, .ref sq, .ref ce, .ref lw, .int 5, .int 0, .int 0, .int 0, .ref wo, .ref he, .int 0, .int 0, .int 0, .ref sk, .ref na, .ref kp, .int 0, .int 0, .int 0, .int 0, .ref gb, .ref go, .ref fa, .ref ga, .int 0, .int 0, .ref vo])), (tp, .inl (G.2.1, 160, .inl (gPf tB 40))), (wo, .inl (G.2.1, 96, .inl (gPf tW 96)))] H := hP1
  have hD1 : va_D (va_A [(h0, .inr (6, [.int 0, .ref kd, .ref mo, .ref st, .int 0, .ref ro, .ref tp, .int 40, .ref cd, .ref sr, .int 0, .int 0, .int 0, .ref ir, .ref ih, .ref ss, .ref sq, .ref ce, .ref lw, .int 5, .int 0, .int 0, .int 0, .ref wo, .ref he, .int 0, .int 0, .int 0, .ref sk, .ref na, .ref kp, .int 0, .int 0, .int 0, .int 0, .ref gb, .ref go, .ref fa, .ref ga, .int 0, .int 0, .ref vo])), (tp, .inl (G.2.1, 160, .inl (gPf tB 40))), (wo, .inl (G.2.1, 96, .inl (gPf tW 96)))] _) [(h0, .inr (6, [.int 0, .ref kd, .ref mo, .ref st, .int 0, .ref ro, .ref tp, .int 40, .ref cd, .ref sr, .int 0, .int 0, .int 0, .ref ir, .ref ih, .ref ss, .ref sq, .ref ce, .ref lw, .int 5, .int 0, .int 0, .int 0, .ref wo, .ref he, .int 0, .int 0, .int 0, .ref sk, .ref na, .ref kp, .int 0, .int 0, .int 0, .int 0, .ref gb, .ref go, .ref fa, .ref ga, .int 0, .int 0, .ref vo])), (tp, .inl (G.2.1, 160, .inl (gPf tB 40))), (wo, .inl (G.2.1, 96, .inl (gPf tW 96)))] := hD1
  have w_47 : r_46 = 0 := w_47
  obtain ⟨hP, hD⟩ := va_join (wr := []) (w1 := [(h0, .inr (6, [.int 0, .ref kd, .ref mo, .ref st, .int 0, .ref ro, .ref tp, .int 40, .ref cd, .ref sr, .int 0, .int 0, .int 0, .ref ir, .ref ih, .ref ss, .ref sq, .ref ce, .ref lw, .int 5, .int 0, .int 0, .int 0, .ref wo, .ref he, .int 0, .int 0, .int 0, .ref sk, .ref na, .ref kp, .int 0, .int 0, .int 0, .int 0, .ref gb, .ref go, .ref fa, .ref ga, .int 0, .int 0, .ref vo])), (tp, .inl (G.2.1, 160, .inl (gPf tB 40))), (wo, .inl (G.2.1, 96, .inl (gPf tW 96)))]) hP hD [0, 1, 2] [] rfl rfl (by decide) (by decide) hk1 hFc hP1 hD1
  have hP : va_P G.1 vwCl [(h0, .inr (6, [.int 0, .ref kd, .ref mo, .ref st, .int 0, .ref ro, .ref tp, .int 40, .ref cd, .ref sr, .int 0, .int 0, .int 0, .ref ir, .ref ih, .ref ss, .ref sq, .ref ce, .ref lw, .int 5, .int 0, .int 0, .int 0, .ref wo, .ref he, .int 0, .int 0, .int 0, .ref sk, .ref na, .ref kp, .int 0, .int 0, .int 0, .int 0, .ref gb, .ref go, .ref fa, .ref ga, .int 0, .int 0, .ref vo])), (tp, .inl (G.2.1, 160, .inl (gPf tB 40))), (wo, .inl (G.2.1, 96, .inl (gPf tW 96)))] H := hP
  have hD : va_D A [(h0, .inr (6, [.int 0, .ref kd, .ref mo, .ref st, .int 0, .ref ro, .ref tp, .int 40, .ref cd, .ref sr, .int 0, .int 0, .int 0, .ref ir, .ref ih, .ref ss, .ref sq, .ref ce, .ref lw, .int 5, .int 0, .int 0, .int 0, .ref wo, .ref he, .int 0, .int 0, .int 0, .ref sk, .ref na, .ref kp, .int 0, .int 0, .int 0, .int 0, .ref gb, .ref go, .ref fa, .ref ga, .int 0, .int 0, .ref vo])), (tp, .inl (G.2.1, 160, .inl (gPf tB 40))), (wo, .inl (G.2.1, 96, .inl (gPf tW 96)))] := hD
  have w_47 : r_46 = 0 := w_47
  subst w_47
  refine lv_istore_n (lv' := [(2, .int 0), (1, .int 102), (0, .ref h0)]) hx hb dX6_next_158 rfl hl (by decide) rfl (fun ls hl => ?_)
  refine lv_aload_n hx hb dX6_next_159 rfl (lv_at hl 2 rfl) ?_
  refine lv_iload_n hx hb dX6_next_160 rfl (lv_at hl 0 rfl) ?_
  refine lv_iconst (v := 3) hx hb dX6_next_161 (by decide) ?_
  refine lv_icmp_ge (tgt := 169) hx hb dX6_next_162 (by decide) (fun c_48 => ?_) (fun c_48 => ?_)
  · exact absurd c_48 (by decide)
  refine lv_iconst (v := 3) hx hb dX6_next_165 (by decide) ?_
  refine lv_goto (tgt := 195) hx hb dX6_next_166 (by decide) ?_
  refine va_put (D := G.1) (ci := 6) (v := .int 3) (ty := .int) (C := RX6) (T := TX6) (N := 42) hx hb hts hiX6 tyX6 tyX6_ok nmX6 hown hK hP hD hS 0 rfl rfl 21 (by decide) kf117 (fun _ h9 => h9) rfl (by decide +kernel) rfl rfl (Nat.le_of_ble_eq_true rfl) dX6_next_195 (fun H locs hP hD hS => ?_)
  have hP : va_P G.1 vwCl [(h0, .inr (6, [.int 0, .ref kd, .ref mo, .ref st, .int 0, .ref ro, .ref tp, .int 40, .ref cd, .ref sr, .int 0, .int 0, .int 0, .ref ir, .ref ih, .ref ss, .ref sq, .ref ce, .ref lw, .int 5, .int 0, .int 3, .int 0, .ref wo, .ref he, .int 0, .int 0, .int 0, .ref sk, .ref na, .ref kp, .int 0, .int 0, .int 0, .int 0, .ref gb, .ref go, .ref fa, .ref ga, .int 0, .int 0, .ref vo])), (tp, .inl (G.2.1, 160, .inl (gPf tB 40))), (wo, .inl (G.2.1, 96, .inl (gPf tW 96)))] H := hP
  have hD : va_D A [(h0, .inr (6, [.int 0, .ref kd, .ref mo, .ref st, .int 0, .ref ro, .ref tp, .int 40, .ref cd, .ref sr, .int 0, .int 0, .int 0, .ref ir, .ref ih, .ref ss, .ref sq, .ref ce, .ref lw, .int 5, .int 0, .int 3, .int 0, .ref wo, .ref he, .int 0, .int 0, .int 0, .ref sk, .ref na, .ref kp, .int 0, .int 0, .int 0, .int 0, .ref gb, .ref go, .ref fa, .ref ga, .int 0, .int 0, .ref vo])), (tp, .inl (G.2.1, 160, .inl (gPf tB 40))), (wo, .inl (G.2.1, 96, .inl (gPf tW 96)))] := hD
  refine lv_aload_n hx hb dX6_next_198 rfl (lv_at hl 2 rfl) ?_
  refine lv_iload_n hx hb dX6_next_199 rfl (lv_at hl 0 rfl) ?_
  refine lv_iconst (v := 3) hx hb dX6_next_200 (by decide) ?_
  refine lv_icmp_ge (tgt := 208) hx hb dX6_next_201 (by decide) (fun c_49 => ?_) (fun c_49 => ?_)
  · exact absurd c_49 (by decide)
  refine lv_iload_n hx hb dX6_next_204 rfl (lv_at hl 0 rfl) ?_
  refine lv_goto (tgt := 211) hx hb dX6_next_205 (by decide) ?_
  refine va_put (D := G.1) (ci := 6) (v := .int 0) (ty := .int) (C := RX6) (T := TX6) (N := 42) hx hb hts hiX6 tyX6 tyX6_ok nmX6 hown hK hP hD hS 0 rfl rfl 22 (by decide) kf120 (fun _ h9 => h9) rfl (by decide +kernel) rfl rfl (Nat.le_of_ble_eq_true rfl) dX6_next_211 (fun H locs hP hD hS => ?_)
  have hP : va_P G.1 vwCl [(h0, .inr (6, [.int 0, .ref kd, .ref mo, .ref st, .int 0, .ref ro, .ref tp, .int 40, .ref cd, .ref sr, .int 0, .int 0, .int 0, .ref ir, .ref ih, .ref ss, .ref sq, .ref ce, .ref lw, .int 5, .int 0, .int 3, .int 0, .ref wo, .ref he, .int 0, .int 0, .int 0, .ref sk, .ref na, .ref kp, .int 0, .int 0, .int 0, .int 0, .ref gb, .ref go, .ref fa, .ref ga, .int 0, .int 0, .ref vo])), (tp, .inl (G.2.1, 160, .inl (gPf tB 40))), (wo, .inl (G.2.1, 96, .inl (gPf tW 96)))] H := hP
  have hD : va_D A [(h0, .inr (6, [.int 0, .ref kd, .ref mo, .ref st, .int 0, .ref ro, .ref tp, .int 40, .ref cd, .ref sr, .int 0, .int 0, .int 0, .ref ir, .ref ih, .ref ss, .ref sq, .ref ce, .ref lw, .int 5, .int 0, .int 3, .int 0, .ref wo, .ref he, .int 0, .int 0, .int 0, .ref sk, .ref na, .ref kp, .int 0, .int 0, .int 0, .int 0, .ref gb, .ref go, .ref fa, .ref ga, .int 0, .int 0, .ref vo])), (tp, .inl (G.2.1, 160, .inl (gPf tB 40))), (wo, .inl (G.2.1, 96, .inl (gPf tW 96)))] := hD
  refine lv_goto (tgt := 403) hx hb dX6_next_214 (by decide) ?_
  have hP9 := hP.sub (ws' := [(h0, .inr (6, [.int 0, .ref kd, .ref mo, .ref st, .int 0, .ref ro, .ref tp, .int 40, .ref cd, .ref sr, .int 0, .int 0, .int 0, .ref ir, .ref ih, .ref ss, .ref sq, .ref ce, .ref lw, .int 5, .int 0, .int 3, .int 0, .ref wo, .ref he, .int 0, .int 0, .int 0, .ref sk, .ref na, .ref kp, .int 0, .int 0, .int 0, .int 0, .ref gb, .ref go, .ref fa, .ref ga, .int 0, .int 0, .ref vo])), (tp, .inl (G.2.1, 160, .inl (gPf tB 40))), (wo, .inl (G.2.1, 96, .inl (gPf tW 96)))]) [0, 1, 2] rfl
  have hD9 := hD.sub (ws' := [(h0, .inr (6, [.int 0, .ref kd, .ref mo, .ref st, .int 0, .ref ro, .ref tp, .int 40, .ref cd, .ref sr, .int 0, .int 0, .int 0, .ref ir, .ref ih, .ref ss, .ref sq, .ref ce, .ref lw, .int 5, .int 0, .int 3, .int 0, .ref wo, .ref he, .int 0, .int 0, .int 0, .ref sk, .ref na, .ref kp, .int 0, .int 0, .int 0, .int 0, .ref gb, .ref go, .ref fa, .ref ga, .int 0, .int 0, .ref vo])), (tp, .inl (G.2.1, 160, .inl (gPf tB 40))), (wo, .inl (G.2.1, 96, .inl (gPf tW 96)))]) [0, 1, 2] (by decide) rfl
  have hpost : (fun (u : Unit) => match u with | _ => True) () := by first | rfl | trivial
  exact W.vret hx hb hr (fun t ht hW => ⟨⟨(), rfl, hpost, by rw [ht]; exact hP9, va_K.moved hW.alike hK, hD9⟩, hS.F ht⟩) hS.2.2 dX6_next_403
abbrev q_X6_in_z10 (G : gG) (A : Nat → Prop) : Array Value → State → Outcome → State → Prop := va_Qi (fun (r : Int32) (u : Unit) => match u with | _ => r = 1) (fun (u : Unit) t => match u with | _ => va_P G.1 vwCl [] t.heap ∧ gK G t ∧ va_D A []) A
set_option maxHeartbeats 4000000 in
set_option maxRecDepth 100000 in
theorem c_X6_in_z10 (l : Launch) (G : gG) (sz : Nat) : Met l yX6_in wsX6_in ({ frames := 0, cells := 0, slots := 0, locals := 0 }) (gPre G [.int 105, .int 97, .int 122] [] sz) (q_X6_in_z10 G (va_A [] sz)) 0 0 (va_A [] sz) := by
  refine Met.ofW (cc := cX6_in) (maxL := 3) (ret := (some .boolean)) (by decide) rfl ?_
  intro p e s m args below meth c s₁ B hml hv
  obtain ⟨rfl, hsz, hP, hK, hD0⟩ := hv
  have hx := B.exec
  have hb := B.bytes
  have hr := B.returns
  have hts := atoms_spec (ws := wsX6_in) B.pre
  have hown : s.vm.findClass RX6 = some m.cls := findClass_of_methodNamed B.named
  have hlocks := B.notSynchronized
  subst hsz
  have hD := hD0.self (sz := s.heap.size)
  generalize hAe : va_A [] s.heap.size = A at hD ⊢
  have hA : ∀ q : Nat, s.heap.size ≤ q → A q := fun q h => by rw [← hAe]; exact Or.inr h
  have hS : va_S A s.heap s.heap [] := va_S.rf
  have hP : va_P G.1 vwCl [] s.heap := hP
  have hD : va_D A [] := hD
  have hl := lv_entry ([.int 105, .int 97, .int 122]) (n := 3) (Nat.le_of_ble_eq_true rfl)
  rw [lg_entry_eq]
  generalize (lg_sl ([.int 105, .int 97, .int 122]) ++ List.replicate (3 - (lg_sl ([.int 105, .int 97, .int 122])).length) Slot.unset).toArray = ls at hl ⊢
  have hl : lv_has ls 3 [(0, .int 105), (1, .int 97), (2, .int 122)] := hl
  refine lv_iload_n hx hb dX6_in_0 rfl (lv_at hl 0 rfl) ?_
  refine lv_iload_n hx hb dX6_in_1 rfl (lv_at hl 1 rfl) ?_
  refine lv_icmp_lt (tgt := 14) hx hb dX6_in_2 (by decide) (fun c_1 => ?_) (fun c_1 => ?_)
  · exact absurd c_1 (by decide)
  refine lv_iload_n hx hb dX6_in_5 rfl (lv_at hl 0 rfl) ?_
  refine lv_iload_n hx hb dX6_in_6 rfl (lv_at hl 2 rfl) ?_
  refine lv_icmp_gt (tgt := 14) hx hb dX6_in_7 (by decide) (fun c_2 => ?_) (fun c_2 => ?_)
  · exact absurd c_2 (by decide)
  refine lv_iconst (v := 1) hx hb dX6_in_10 (by decide) ?_
  refine lv_goto (tgt := 15) hx hb dX6_in_11 (by decide) ?_
  have hP9 := hP.sub (ws' := []) [] rfl
  have hD9 := hD.sub (ws' := []) [] (by decide) rfl
  have hpost : (fun (r : Int32) (u : Unit) => match u with | _ => r = 1) 1 () := by first | rfl | trivial
  exact W.zret (v := 1) hx hb hr (rfl) (fun t ht hW => ⟨⟨1, (), rfl, hpost, by rw [ht]; exact hP9, va_K.moved hW.alike hK, hD9⟩, hS.F ht⟩) hS.2.2 dX6_in_15
abbrev q_X6_in_z11 (G : gG) (A : Nat → Prop) : Array Value → State → Outcome → State → Prop := va_Qi (fun (r : Int32) (u : Unit) => match u with | _ => r = 1) (fun (u : Unit) t => match u with | _ => va_P G.1 vwCl [] t.heap ∧ gK G t ∧ va_D A []) A
set_option maxHeartbeats 4000000 in
set_option maxRecDepth 100000 in
theorem c_X6_in_z11 (l : Launch) (G : gG) (sz : Nat) : Met l yX6_in wsX6_in ({ frames := 0, cells := 0, slots := 0, locals := 0 }) (gPre G [.int 122, .int 97, .int 122] [] sz) (q_X6_in_z11 G (va_A [] sz)) 0 0 (va_A [] sz) := by
  refine Met.ofW (cc := cX6_in) (maxL := 3) (ret := (some .boolean)) (by decide) rfl ?_
  intro p e s m args below meth c s₁ B hml hv
  obtain ⟨rfl, hsz, hP, hK, hD0⟩ := hv
  have hx := B.exec
  have hb := B.bytes
  have hr := B.returns
  have hts := atoms_spec (ws := wsX6_in) B.pre
  have hown : s.vm.findClass RX6 = some m.cls := findClass_of_methodNamed B.named
  have hlocks := B.notSynchronized
  subst hsz
  have hD := hD0.self (sz := s.heap.size)
  generalize hAe : va_A [] s.heap.size = A at hD ⊢
  have hA : ∀ q : Nat, s.heap.size ≤ q → A q := fun q h => by rw [← hAe]; exact Or.inr h
  have hS : va_S A s.heap s.heap [] := va_S.rf
  have hP : va_P G.1 vwCl [] s.heap := hP
  have hD : va_D A [] := hD
  have hl := lv_entry ([.int 122, .int 97, .int 122]) (n := 3) (Nat.le_of_ble_eq_true rfl)
  rw [lg_entry_eq]
  generalize (lg_sl ([.int 122, .int 97, .int 122]) ++ List.replicate (3 - (lg_sl ([.int 122, .int 97, .int 122])).length) Slot.unset).toArray = ls at hl ⊢
  have hl : lv_has ls 3 [(0, .int 122), (1, .int 97), (2, .int 122)] := hl
  refine lv_iload_n hx hb dX6_in_0 rfl (lv_at hl 0 rfl) ?_
  refine lv_iload_n hx hb dX6_in_1 rfl (lv_at hl 1 rfl) ?_
  refine lv_icmp_lt (tgt := 14) hx hb dX6_in_2 (by decide) (fun c_1 => ?_) (fun c_1 => ?_)
  · exact absurd c_1 (by decide)
  refine lv_iload_n hx hb dX6_in_5 rfl (lv_at hl 0 rfl) ?_
  refine lv_iload_n hx hb dX6_in_6 rfl (lv_at hl 2 rfl) ?_
  refine lv_icmp_gt (tgt := 14) hx hb dX6_in_7 (by decide) (fun c_2 => ?_) (fun c_2 => ?_)
  · exact absurd c_2 (by decide)
  refine lv_iconst (v := 1) hx hb dX6_in_10 (by decide) ?_
  refine lv_goto (tgt := 15) hx hb dX6_in_11 (by decide) ?_
  have hP9 := hP.sub (ws' := []) [] rfl
  have hD9 := hD.sub (ws' := []) [] (by decide) rfl
  have hpost : (fun (r : Int32) (u : Unit) => match u with | _ => r = 1) 1 () := by first | rfl | trivial
  exact W.zret (v := 1) hx hb hr (rfl) (fun t ht hW => ⟨⟨1, (), rfl, hpost, by rw [ht]; exact hP9, va_K.moved hW.alike hK, hD9⟩, hS.F ht⟩) hS.2.2 dX6_in_15
abbrev q_X6_wordFrom_z12 (G : gG) (h0 kd mo st ro tp cd sr ir ih ss sq ce lw wo he sk na kp gb go fa ga vo : Nat) (A : Nat → Prop) : Array Value → State → Outcome → State → Prop := va_Qi (fun (r : Int32) (u : Unit) => match u with | _ => r = 3) (fun (u : Unit) t => match u with | _ => va_P G.1 vwCl [(h0, .inr (6, [.int 0, .ref kd, .ref mo, .ref st, .int 0, .ref ro, .ref tp, .int 40, .ref cd, .ref sr, .int 0, .int 0, .int 0, .ref ir, .ref ih, .ref ss, .ref sq, .ref ce, .ref lw, .int 10, .int 6, .int 0, .int 0, .ref wo, .ref he, .int 0, .int 0, .int 0, .ref sk, .ref na, .ref kp, .int 0, .int 0, .int 0, .int 0, .ref gb, .ref go, .ref fa, .ref ga, .int 0, .int 0, .ref vo])), (tp, .inl (G.2.1, 160, .inl (gPf tB 40))), (wo, .inl (G.2.1, 96, .inl (gPf tW 96)))] t.heap ∧ gK G t ∧ va_D A [(h0, .inr (6, [.int 0, .ref kd, .ref mo, .ref st, .int 0, .ref ro, .ref tp, .int 40, .ref cd, .ref sr, .int 0, .int 0, .int 0, .ref ir, .ref ih, .ref ss, .ref sq, .ref ce, .ref lw, .int 10, .int 6, .int 0, .int 0, .ref wo, .ref he, .int 0, .int 0, .int 0, .ref sk, .ref na, .ref kp, .int 0, .int 0, .int 0, .int 0, .ref gb, .ref go, .ref fa, .ref ga, .int 0, .int 0, .ref vo])), (tp, .inl (G.2.1, 160, .inl (gPf tB 40))), (wo, .inl (G.2.1, 96, .inl (gPf tW 96)))]) A
set_option maxHeartbeats 4000000 in
set_option maxRecDepth 100000 in
theorem c_X6_wordFrom_z12 (l : Launch) (G : gG) (h0 kd mo st ro tp cd sr ir ih ss sq ce lw wo he sk na kp gb go fa ga vo : Nat) (sz : Nat) : Met l yX6_wordFrom wsX6_wordFrom ({ frames := 0, cells := 0, slots := 0, locals := 0 }) (gPre G [.ref h0, .int 6, .int 10] [(h0, .inr (6, [.int 0, .ref kd, .ref mo, .ref st, .int 0, .ref ro, .ref tp, .int 40, .ref cd, .ref sr, .int 0, .int 0, .int 0, .ref ir, .ref ih, .ref ss, .ref sq, .ref ce, .ref lw, .int 10, .int 6, .int 0, .int 0, .ref wo, .ref he, .int 0, .int 0, .int 0, .ref sk, .ref na, .ref kp, .int 0, .int 0, .int 0, .int 0, .ref gb, .ref go, .ref fa, .ref ga, .int 0, .int 0, .ref vo])), (tp, .inl (G.2.1, 160, .inl (gPf tB 40))), (wo, .inl (G.2.1, 96, .inl (gPf tW 96)))] sz) (q_X6_wordFrom_z12 G h0 kd mo st ro tp cd sr ir ih ss sq ce lw wo he sk na kp gb go fa ga vo (va_A [(h0, .inr (6, [.int 0, .ref kd, .ref mo, .ref st, .int 0, .ref ro, .ref tp, .int 40, .ref cd, .ref sr, .int 0, .int 0, .int 0, .ref ir, .ref ih, .ref ss, .ref sq, .ref ce, .ref lw, .int 10, .int 6, .int 0, .int 0, .ref wo, .ref he, .int 0, .int 0, .int 0, .ref sk, .ref na, .ref kp, .int 0, .int 0, .int 0, .int 0, .ref gb, .ref go, .ref fa, .ref ga, .int 0, .int 0, .ref vo])), (tp, .inl (G.2.1, 160, .inl (gPf tB 40))), (wo, .inl (G.2.1, 96, .inl (gPf tW 96)))] sz)) 0 0 (va_A [(h0, .inr (6, [.int 0, .ref kd, .ref mo, .ref st, .int 0, .ref ro, .ref tp, .int 40, .ref cd, .ref sr, .int 0, .int 0, .int 0, .ref ir, .ref ih, .ref ss, .ref sq, .ref ce, .ref lw, .int 10, .int 6, .int 0, .int 0, .ref wo, .ref he, .int 0, .int 0, .int 0, .ref sk, .ref na, .ref kp, .int 0, .int 0, .int 0, .int 0, .ref gb, .ref go, .ref fa, .ref ga, .int 0, .int 0, .ref vo])), (tp, .inl (G.2.1, 160, .inl (gPf tB 40))), (wo, .inl (G.2.1, 96, .inl (gPf tW 96)))] sz) := by
  refine Met.ofW (cc := cX6_wordFrom) (maxL := 6) (ret := (some .int)) (by decide) rfl ?_
  intro p e s m args below meth c s₁ B hml hv
  obtain ⟨rfl, hsz, hP, hK, hD0⟩ := hv
  have hx := B.exec
  have hb := B.bytes
  have hr := B.returns
  have hts := atoms_spec (ws := wsX6_wordFrom) B.pre
  have hown : s.vm.findClass RX6 = some m.cls := findClass_of_methodNamed B.named
  have hlocks := B.notSynchronized
  subst hsz
  have hD := hD0.self (sz := s.heap.size)
  generalize hAe : va_A [(h0, .inr (6, [.int 0, .ref kd, .ref mo, .ref st, .int 0, .ref ro, .ref tp, .int 40, .ref cd, .ref sr, .int 0, .int 0, .int 0, .ref ir, .ref ih, .ref ss, .ref sq, .ref ce, .ref lw, .int 10, .int 6, .int 0, .int 0, .ref wo, .ref he, .int 0, .int 0, .int 0, .ref sk, .ref na, .ref kp, .int 0, .int 0, .int 0, .int 0, .ref gb, .ref go, .ref fa, .ref ga, .int 0, .int 0, .ref vo])), (tp, .inl (G.2.1, 160, .inl (gPf tB 40))), (wo, .inl (G.2.1, 96, .inl (gPf tW 96)))] s.heap.size = A at hD ⊢
  have hA : ∀ q : Nat, s.heap.size ≤ q → A q := fun q h => by rw [← hAe]; exact Or.inr h
  have hS : va_S A s.heap s.heap [] := va_S.rf
  have hP : va_P G.1 vwCl [(h0, .inr (6, [.int 0, .ref kd, .ref mo, .ref st, .int 0, .ref ro, .ref tp, .int 40, .ref cd, .ref sr, .int 0, .int 0, .int 0, .ref ir, .ref ih, .ref ss, .ref sq, .ref ce, .ref lw, .int 10, .int 6, .int 0, .int 0, .ref wo, .ref he, .int 0, .int 0, .int 0, .ref sk, .ref na, .ref kp, .int 0, .int 0, .int 0, .int 0, .ref gb, .ref go, .ref fa, .ref ga, .int 0, .int 0, .ref vo])), (tp, .inl (G.2.1, 160, .inl (gPf tB 40))), (wo, .inl (G.2.1, 96, .inl (gPf tW 96)))] s.heap := hP
  have hD : va_D A [(h0, .inr (6, [.int 0, .ref kd, .ref mo, .ref st, .int 0, .ref ro, .ref tp, .int 40, .ref cd, .ref sr, .int 0, .int 0, .int 0, .ref ir, .ref ih, .ref ss, .ref sq, .ref ce, .ref lw, .int 10, .int 6, .int 0, .int 0, .ref wo, .ref he, .int 0, .int 0, .int 0, .ref sk, .ref na, .ref kp, .int 0, .int 0, .int 0, .int 0, .ref gb, .ref go, .ref fa, .ref ga, .int 0, .int 0, .ref vo])), (tp, .inl (G.2.1, 160, .inl (gPf tB 40))), (wo, .inl (G.2.1, 96, .inl (gPf tW 96)))] := hD
  have hl := lv_entry ([.ref h0, .int 6, .int 10]) (n := 6) (Nat.le_of_ble_eq_true rfl)
  rw [lg_entry_eq]
  generalize (lg_sl ([.ref h0, .int 6, .int 10]) ++ List.replicate (6 - (lg_sl ([.ref h0, .int 6, .int 10])).length) Slot.unset).toArray = ls at hl ⊢
  have hl : lv_has ls 6 [(0, .ref h0), (1, .int 6), (2, .int 10)] := hl
  have kf49 := hts (.fieldLink RX6 49 "PebbleInShoeModel" "words" "[I") (by decide +kernel)
  have hiX6 := (by decide +kernel : ∀ w ∈ wsX60, w ∈ wsX6_wordFrom)
  have kf22 := hts (.fieldLink RX6 22 "PebbleInShoeModel" "tape" "[I") (by decide +kernel)
  refine lv_iconst (v := 0) hx hb dX6_wordFrom_0 (by decide) ?_
  refine lv_istore_n (lv' := [(3, .int 0), (0, .ref h0), (1, .int 6), (2, .int 10)]) hx hb dX6_wordFrom_1 rfl hl (by decide) rfl (fun ls hl => ?_)
  refine lv_iload_n hx hb dX6_wordFrom_2 rfl (lv_at hl 0 rfl) ?_
  refine lv_bipush (v := 12) hx hb dX6_wordFrom_3 (by decide) ?_
  refine lv_icmp_ge (tgt := 101) hx hb dX6_wordFrom_5 (by decide) (fun c_1 => ?_) (fun c_1 => ?_)
  · exact absurd c_1 (by decide)
  refine lv_iload_n hx hb dX6_wordFrom_8 rfl (lv_at hl 3 rfl) ?_
  refine lv_iload_n hx hb dX6_wordFrom_9 rfl (lv_at hl 2 rfl) ?_
  refine lv_isub hx hb dX6_wordFrom_10 ?_
  refine lv_topi (fun v_2 ev_2 => ?_)
  have ev_2 : v_2 = 4 := ev_2.trans (by decide)
  subst ev_2
  refine lv_bipush (v := 8) hx hb dX6_wordFrom_11 (by decide) ?_
  refine lv_icmp_gt (tgt := 20) hx hb dX6_wordFrom_13 (by decide) (fun c_3 => ?_) (fun c_3 => ?_)
  · exact absurd c_3 (by decide)
  refine lv_iconst (v := 1) hx hb dX6_wordFrom_16 (by decide) ?_
  refine lv_goto (tgt := 21) hx hb dX6_wordFrom_17 (by decide) ?_
  refine lv_istore (lv' := [(4, .int 1), (3, .int 0), (0, .ref h0), (1, .int 6), (2, .int 10)]) hx hb dX6_wordFrom_21 hl (by decide) rfl (fun ls hl => ?_)
  refine lv_iconst (v := 0) hx hb dX6_wordFrom_23 (by decide) ?_
  refine lv_istore (lv' := [(5, .int 0), (4, .int 1), (3, .int 0), (0, .ref h0), (1, .int 6), (2, .int 10)]) hx hb dX6_wordFrom_24 hl (by decide) rfl (fun ls hl => ?_)
  refine lv_iload hx hb dX6_wordFrom_26 (lv_at hl 0 rfl) ?_
  refine lv_bipush (v := 8) hx hb dX6_wordFrom_28 (by decide) ?_
  refine lv_icmp_ge (tgt := 88) hx hb dX6_wordFrom_30 (by decide) (fun c_4 => ?_) (fun c_4 => ?_)
  · exact absurd c_4 (by decide)
  refine lv_iload hx hb dX6_wordFrom_33 (lv_at hl 1 rfl) ?_
  refine lv_if_eq (tgt := 88) hx hb dX6_wordFrom_35 (by decide) (fun c_5 => ?_) (fun c_5 => ?_)
  · exact absurd c_5 (by decide)
  refine lv_aload_n hx hb dX6_wordFrom_38 rfl (lv_at hl 3 rfl) ?_
  refine va_get (D := G.1) (ci := 6) (v := .ref wo) (C := RX6) (T := TX6) (N := 42) hx hb hts hiX6 hown hK hP 0 rfl rfl 23 (by decide) kf49 (fun _ h9 => h9) rfl dX6_wordFrom_39 ?_
  refine lv_bipush (v := 8) hx hb dX6_wordFrom_42 (by decide) ?_
  refine lv_iload_n hx hb dX6_wordFrom_44 rfl (lv_at hl 2 rfl) ?_
  refine lv_imul hx hb dX6_wordFrom_45 ?_
  refine lv_topi (fun v_6 ev_6 => ?_)
  have ev_6 : v_6 = 0 := ev_6.trans (by decide)
  subst ev_6
  refine lv_iload hx hb dX6_wordFrom_46 (lv_at hl 0 rfl) ?_
  refine lv_iadd hx hb dX6_wordFrom_48 ?_
  refine lv_topi (fun v_7 ev_7 => ?_)
  have ev_7 : v_7 = 0 := ev_7.trans (by decide)
  subst ev_7
  refine va_iald (D := G.1) hx hb hK hP 2 0 rfl rfl (i := 0) (gIn (by decide)) dX6_wordFrom_49 ?_
  refine lv_topi (fun v_8 ev_8 => ?_)
  have ev_8 : v_8 = 102 := ev_8.trans (by decide)
  subst ev_8
  refine lv_iload_n hx hb dX6_wordFrom_50 rfl (lv_at hl 4 rfl) ?_
  refine lv_iload hx hb dX6_wordFrom_51 (lv_at hl 0 rfl) ?_
  refine lv_iadd hx hb dX6_wordFrom_53 ?_
  refine lv_topi (fun v_9 ev_9 => ?_)
  have ev_9 : v_9 = 6 := ev_9.trans (by decide)
  subst ev_9
  refine lv_iload_n hx hb dX6_wordFrom_54 rfl (lv_at hl 5 rfl) ?_
  refine lv_icmp_ge (tgt := 70) hx hb dX6_wordFrom_55 (by decide) (fun c_10 => ?_) (fun c_10 => ?_)
  · exact absurd c_10 (by decide)
  refine lv_aload_n hx hb dX6_wordFrom_58 rfl (lv_at hl 3 rfl) ?_
  refine va_get (D := G.1) (ci := 6) (v := .ref tp) (C := RX6) (T := TX6) (N := 42) hx hb hts hiX6 hown hK hP 0 rfl rfl 6 (by decide) kf22 (fun _ h9 => h9) rfl dX6_wordFrom_59 ?_
  refine lv_iload_n hx hb dX6_wordFrom_62 rfl (lv_at hl 4 rfl) ?_
  refine lv_iload hx hb dX6_wordFrom_63 (lv_at hl 0 rfl) ?_
  refine lv_iadd hx hb dX6_wordFrom_65 ?_
  refine lv_topi (fun v_11 ev_11 => ?_)
  have ev_11 : v_11 = 6 := ev_11.trans (by decide)
  subst ev_11
  refine va_iald (D := G.1) hx hb hK hP 1 0 rfl rfl (i := 6) (gIn (by decide)) dX6_wordFrom_66 ?_
  refine lv_topi (fun v_12 ev_12 => ?_)
  have ev_12 : v_12 = 115 := ev_12.trans (by decide)
  subst ev_12
  refine lv_goto (tgt := 72) hx hb dX6_wordFrom_67 (by decide) ?_
  refine lv_icmp_ne (tgt := 79) hx hb dX6_wordFrom_72 (by decide) (fun c_13 => ?_) (fun c_13 => ?_)
  rotate_left
  · exact absurd c_13 (by decide)
  refine lv_iconst (v := 0) hx hb dX6_wordFrom_79 (by decide) ?_
  refine lv_istore (lv' := [(4, .int 0), (5, .int 0), (3, .int 0), (0, .ref h0), (1, .int 6), (2, .int 10)]) hx hb dX6_wordFrom_80 hl (by decide) rfl (fun ls hl => ?_)
  refine lv_iinc (v := 1) (lv' := [(5, .int 1), (4, .int 0), (3, .int 0), (0, .ref h0), (1, .int 6), (2, .int 10)]) hx hb dX6_wordFrom_82 hl (k := 1) rfl (by decide) (by decide) rfl (fun ls hl => ?_)
  refine lv_goto (tgt := 26) hx hb dX6_wordFrom_85 (by decide) ?_
  refine lv_iload hx hb dX6_wordFrom_26 (lv_at hl 0 rfl) ?_
  refine lv_bipush (v := 8) hx hb dX6_wordFrom_28 (by decide) ?_
  refine lv_icmp_ge (tgt := 88) hx hb dX6_wordFrom_30 (by decide) (fun c_14 => ?_) (fun c_14 => ?_)
  · exact absurd c_14 (by decide)
  refine lv_iload hx hb dX6_wordFrom_33 (lv_at hl 1 rfl) ?_
  refine lv_if_eq (tgt := 88) hx hb dX6_wordFrom_35 (by decide) (fun c_15 => ?_) (fun c_15 => ?_)
  rotate_left
  · exact absurd (by decide) c_15
  refine lv_iload hx hb dX6_wordFrom_88 (lv_at hl 1 rfl) ?_
  refine lv_if_eq (tgt := 95) hx hb dX6_wordFrom_90 (by decide) (fun c_16 => ?_) (fun c_16 => ?_)
  rotate_left
  · exact absurd (by decide) c_16
  refine lv_iinc (v := 1) (lv' := [(3, .int 1), (5, .int 1), (4, .int 0), (0, .ref h0), (1, .int 6), (2, .int 10)]) hx hb dX6_wordFrom_95 hl (k := 2) rfl (by decide) (by decide) rfl (fun ls hl => ?_)
  refine lv_goto (tgt := 2) hx hb dX6_wordFrom_98 (by decide) ?_
  refine lv_iload_n hx hb dX6_wordFrom_2 rfl (lv_at hl 0 rfl) ?_
  refine lv_bipush (v := 12) hx hb dX6_wordFrom_3 (by decide) ?_
  refine lv_icmp_ge (tgt := 101) hx hb dX6_wordFrom_5 (by decide) (fun c_17 => ?_) (fun c_17 => ?_)
  · exact absurd c_17 (by decide)
  refine lv_iload_n hx hb dX6_wordFrom_8 rfl (lv_at hl 5 rfl) ?_
  refine lv_iload_n hx hb dX6_wordFrom_9 rfl (lv_at hl 4 rfl) ?_
  refine lv_isub hx hb dX6_wordFrom_10 ?_
  refine lv_topi (fun v_18 ev_18 => ?_)
  have ev_18 : v_18 = 4 := ev_18.trans (by decide)
  subst ev_18
  refine lv_bipush (v := 8) hx hb dX6_wordFrom_11 (by decide) ?_
  refine lv_icmp_gt (tgt := 20) hx hb dX6_wordFrom_13 (by decide) (fun c_19 => ?_) (fun c_19 => ?_)
  · exact absurd c_19 (by decide)
  refine lv_iconst (v := 1) hx hb dX6_wordFrom_16 (by decide) ?_
  refine lv_goto (tgt := 21) hx hb dX6_wordFrom_17 (by decide) ?_
  refine lv_istore (lv' := [(4, .int 1), (3, .int 1), (5, .int 1), (0, .ref h0), (1, .int 6), (2, .int 10)]) hx hb dX6_wordFrom_21 hl (by decide) rfl (fun ls hl => ?_)
  refine lv_iconst (v := 0) hx hb dX6_wordFrom_23 (by decide) ?_
  refine lv_istore (lv' := [(5, .int 0), (4, .int 1), (3, .int 1), (0, .ref h0), (1, .int 6), (2, .int 10)]) hx hb dX6_wordFrom_24 hl (by decide) rfl (fun ls hl => ?_)
  refine lv_iload hx hb dX6_wordFrom_26 (lv_at hl 0 rfl) ?_
  refine lv_bipush (v := 8) hx hb dX6_wordFrom_28 (by decide) ?_
  refine lv_icmp_ge (tgt := 88) hx hb dX6_wordFrom_30 (by decide) (fun c_20 => ?_) (fun c_20 => ?_)
  · exact absurd c_20 (by decide)
  refine lv_iload hx hb dX6_wordFrom_33 (lv_at hl 1 rfl) ?_
  refine lv_if_eq (tgt := 88) hx hb dX6_wordFrom_35 (by decide) (fun c_21 => ?_) (fun c_21 => ?_)
  · exact absurd c_21 (by decide)
  refine lv_aload_n hx hb dX6_wordFrom_38 rfl (lv_at hl 3 rfl) ?_
  refine va_get (D := G.1) (ci := 6) (v := .ref wo) (C := RX6) (T := TX6) (N := 42) hx hb hts hiX6 hown hK hP 0 rfl rfl 23 (by decide) kf49 (fun _ h9 => h9) rfl dX6_wordFrom_39 ?_
  refine lv_bipush (v := 8) hx hb dX6_wordFrom_42 (by decide) ?_
  refine lv_iload_n hx hb dX6_wordFrom_44 rfl (lv_at hl 2 rfl) ?_
  refine lv_imul hx hb dX6_wordFrom_45 ?_
  refine lv_topi (fun v_22 ev_22 => ?_)
  have ev_22 : v_22 = 8 := ev_22.trans (by decide)
  subst ev_22
  refine lv_iload hx hb dX6_wordFrom_46 (lv_at hl 0 rfl) ?_
  refine lv_iadd hx hb dX6_wordFrom_48 ?_
  refine lv_topi (fun v_23 ev_23 => ?_)
  have ev_23 : v_23 = 8 := ev_23.trans (by decide)
  subst ev_23
  refine va_iald (D := G.1) hx hb hK hP 2 0 rfl rfl (i := 8) (gIn (by decide)) dX6_wordFrom_49 ?_
  refine lv_topi (fun v_24 ev_24 => ?_)
  have ev_24 : v_24 = 119 := ev_24.trans (by decide)
  subst ev_24
  refine lv_iload_n hx hb dX6_wordFrom_50 rfl (lv_at hl 4 rfl) ?_
  refine lv_iload hx hb dX6_wordFrom_51 (lv_at hl 0 rfl) ?_
  refine lv_iadd hx hb dX6_wordFrom_53 ?_
  refine lv_topi (fun v_25 ev_25 => ?_)
  have ev_25 : v_25 = 6 := ev_25.trans (by decide)
  subst ev_25
  refine lv_iload_n hx hb dX6_wordFrom_54 rfl (lv_at hl 5 rfl) ?_
  refine lv_icmp_ge (tgt := 70) hx hb dX6_wordFrom_55 (by decide) (fun c_26 => ?_) (fun c_26 => ?_)
  · exact absurd c_26 (by decide)
  refine lv_aload_n hx hb dX6_wordFrom_58 rfl (lv_at hl 3 rfl) ?_
  refine va_get (D := G.1) (ci := 6) (v := .ref tp) (C := RX6) (T := TX6) (N := 42) hx hb hts hiX6 hown hK hP 0 rfl rfl 6 (by decide) kf22 (fun _ h9 => h9) rfl dX6_wordFrom_59 ?_
  refine lv_iload_n hx hb dX6_wordFrom_62 rfl (lv_at hl 4 rfl) ?_
  refine lv_iload hx hb dX6_wordFrom_63 (lv_at hl 0 rfl) ?_
  refine lv_iadd hx hb dX6_wordFrom_65 ?_
  refine lv_topi (fun v_27 ev_27 => ?_)
  have ev_27 : v_27 = 6 := ev_27.trans (by decide)
  subst ev_27
  refine va_iald (D := G.1) hx hb hK hP 1 0 rfl rfl (i := 6) (gIn (by decide)) dX6_wordFrom_66 ?_
  refine lv_topi (fun v_28 ev_28 => ?_)
  have ev_28 : v_28 = 115 := ev_28.trans (by decide)
  subst ev_28
  refine lv_goto (tgt := 72) hx hb dX6_wordFrom_67 (by decide) ?_
  refine lv_icmp_ne (tgt := 79) hx hb dX6_wordFrom_72 (by decide) (fun c_29 => ?_) (fun c_29 => ?_)
  rotate_left
  · exact absurd c_29 (by decide)
  refine lv_iconst (v := 0) hx hb dX6_wordFrom_79 (by decide) ?_
  refine lv_istore (lv' := [(4, .int 0), (5, .int 0), (3, .int 1), (0, .ref h0), (1, .int 6), (2, .int 10)]) hx hb dX6_wordFrom_80 hl (by decide) rfl (fun ls hl => ?_)
  refine lv_iinc (v := 1) (lv' := [(5, .int 1), (4, .int 0), (3, .int 1), (0, .ref h0), (1, .int 6), (2, .int 10)]) hx hb dX6_wordFrom_82 hl (k := 1) rfl (by decide) (by decide) rfl (fun ls hl => ?_)
  refine lv_goto (tgt := 26) hx hb dX6_wordFrom_85 (by decide) ?_
  refine lv_iload hx hb dX6_wordFrom_26 (lv_at hl 0 rfl) ?_
  refine lv_bipush (v := 8) hx hb dX6_wordFrom_28 (by decide) ?_
  refine lv_icmp_ge (tgt := 88) hx hb dX6_wordFrom_30 (by decide) (fun c_30 => ?_) (fun c_30 => ?_)
  · exact absurd c_30 (by decide)
  refine lv_iload hx hb dX6_wordFrom_33 (lv_at hl 1 rfl) ?_
  refine lv_if_eq (tgt := 88) hx hb dX6_wordFrom_35 (by decide) (fun c_31 => ?_) (fun c_31 => ?_)
  rotate_left
  · exact absurd (by decide) c_31
  refine lv_iload hx hb dX6_wordFrom_88 (lv_at hl 1 rfl) ?_
  refine lv_if_eq (tgt := 95) hx hb dX6_wordFrom_90 (by decide) (fun c_32 => ?_) (fun c_32 => ?_)
  rotate_left
  · exact absurd (by decide) c_32
  refine lv_iinc (v := 2) (lv' := [(3, .int 2), (5, .int 1), (4, .int 0), (0, .ref h0), (1, .int 6), (2, .int 10)]) hx hb dX6_wordFrom_95 hl (k := 2) rfl (by decide) (by decide) rfl (fun ls hl => ?_)
  refine lv_goto (tgt := 2) hx hb dX6_wordFrom_98 (by decide) ?_
  refine lv_iload_n hx hb dX6_wordFrom_2 rfl (lv_at hl 0 rfl) ?_
  refine lv_bipush (v := 12) hx hb dX6_wordFrom_3 (by decide) ?_
  refine lv_icmp_ge (tgt := 101) hx hb dX6_wordFrom_5 (by decide) (fun c_33 => ?_) (fun c_33 => ?_)
  · exact absurd c_33 (by decide)
  refine lv_iload_n hx hb dX6_wordFrom_8 rfl (lv_at hl 5 rfl) ?_
  refine lv_iload_n hx hb dX6_wordFrom_9 rfl (lv_at hl 4 rfl) ?_
  refine lv_isub hx hb dX6_wordFrom_10 ?_
  refine lv_topi (fun v_34 ev_34 => ?_)
  have ev_34 : v_34 = 4 := ev_34.trans (by decide)
  subst ev_34
  refine lv_bipush (v := 8) hx hb dX6_wordFrom_11 (by decide) ?_
  refine lv_icmp_gt (tgt := 20) hx hb dX6_wordFrom_13 (by decide) (fun c_35 => ?_) (fun c_35 => ?_)
  · exact absurd c_35 (by decide)
  refine lv_iconst (v := 1) hx hb dX6_wordFrom_16 (by decide) ?_
  refine lv_goto (tgt := 21) hx hb dX6_wordFrom_17 (by decide) ?_
  refine lv_istore (lv' := [(4, .int 1), (3, .int 2), (5, .int 1), (0, .ref h0), (1, .int 6), (2, .int 10)]) hx hb dX6_wordFrom_21 hl (by decide) rfl (fun ls hl => ?_)
  refine lv_iconst (v := 0) hx hb dX6_wordFrom_23 (by decide) ?_
  refine lv_istore (lv' := [(5, .int 0), (4, .int 1), (3, .int 2), (0, .ref h0), (1, .int 6), (2, .int 10)]) hx hb dX6_wordFrom_24 hl (by decide) rfl (fun ls hl => ?_)
  refine lv_iload hx hb dX6_wordFrom_26 (lv_at hl 0 rfl) ?_
  refine lv_bipush (v := 8) hx hb dX6_wordFrom_28 (by decide) ?_
  refine lv_icmp_ge (tgt := 88) hx hb dX6_wordFrom_30 (by decide) (fun c_36 => ?_) (fun c_36 => ?_)
  · exact absurd c_36 (by decide)
  refine lv_iload hx hb dX6_wordFrom_33 (lv_at hl 1 rfl) ?_
  refine lv_if_eq (tgt := 88) hx hb dX6_wordFrom_35 (by decide) (fun c_37 => ?_) (fun c_37 => ?_)
  · exact absurd c_37 (by decide)
  refine lv_aload_n hx hb dX6_wordFrom_38 rfl (lv_at hl 3 rfl) ?_
  refine va_get (D := G.1) (ci := 6) (v := .ref wo) (C := RX6) (T := TX6) (N := 42) hx hb hts hiX6 hown hK hP 0 rfl rfl 23 (by decide) kf49 (fun _ h9 => h9) rfl dX6_wordFrom_39 ?_
  refine lv_bipush (v := 8) hx hb dX6_wordFrom_42 (by decide) ?_
  refine lv_iload_n hx hb dX6_wordFrom_44 rfl (lv_at hl 2 rfl) ?_
  refine lv_imul hx hb dX6_wordFrom_45 ?_
  refine lv_topi (fun v_38 ev_38 => ?_)
  have ev_38 : v_38 = 16 := ev_38.trans (by decide)
  subst ev_38
  refine lv_iload hx hb dX6_wordFrom_46 (lv_at hl 0 rfl) ?_
  refine lv_iadd hx hb dX6_wordFrom_48 ?_
  refine lv_topi (fun v_39 ev_39 => ?_)
  have ev_39 : v_39 = 16 := ev_39.trans (by decide)
  subst ev_39
  refine va_iald (D := G.1) hx hb hK hP 2 0 rfl rfl (i := 16) (gIn (by decide)) dX6_wordFrom_49 ?_
  refine lv_topi (fun v_40 ev_40 => ?_)
  have ev_40 : v_40 = 98 := ev_40.trans (by decide)
  subst ev_40
  refine lv_iload_n hx hb dX6_wordFrom_50 rfl (lv_at hl 4 rfl) ?_
  refine lv_iload hx hb dX6_wordFrom_51 (lv_at hl 0 rfl) ?_
  refine lv_iadd hx hb dX6_wordFrom_53 ?_
  refine lv_topi (fun v_41 ev_41 => ?_)
  have ev_41 : v_41 = 6 := ev_41.trans (by decide)
  subst ev_41
  refine lv_iload_n hx hb dX6_wordFrom_54 rfl (lv_at hl 5 rfl) ?_
  refine lv_icmp_ge (tgt := 70) hx hb dX6_wordFrom_55 (by decide) (fun c_42 => ?_) (fun c_42 => ?_)
  · exact absurd c_42 (by decide)
  refine lv_aload_n hx hb dX6_wordFrom_58 rfl (lv_at hl 3 rfl) ?_
  refine va_get (D := G.1) (ci := 6) (v := .ref tp) (C := RX6) (T := TX6) (N := 42) hx hb hts hiX6 hown hK hP 0 rfl rfl 6 (by decide) kf22 (fun _ h9 => h9) rfl dX6_wordFrom_59 ?_
  refine lv_iload_n hx hb dX6_wordFrom_62 rfl (lv_at hl 4 rfl) ?_
  refine lv_iload hx hb dX6_wordFrom_63 (lv_at hl 0 rfl) ?_
  refine lv_iadd hx hb dX6_wordFrom_65 ?_
  refine lv_topi (fun v_43 ev_43 => ?_)
  have ev_43 : v_43 = 6 := ev_43.trans (by decide)
  subst ev_43
  refine va_iald (D := G.1) hx hb hK hP 1 0 rfl rfl (i := 6) (gIn (by decide)) dX6_wordFrom_66 ?_
  refine lv_topi (fun v_44 ev_44 => ?_)
  have ev_44 : v_44 = 115 := ev_44.trans (by decide)
  subst ev_44
  refine lv_goto (tgt := 72) hx hb dX6_wordFrom_67 (by decide) ?_
  refine lv_icmp_ne (tgt := 79) hx hb dX6_wordFrom_72 (by decide) (fun c_45 => ?_) (fun c_45 => ?_)
  rotate_left
  · exact absurd c_45 (by decide)
  refine lv_iconst (v := 0) hx hb dX6_wordFrom_79 (by decide) ?_
  refine lv_istore (lv' := [(4, .int 0), (5, .int 0), (3, .int 2), (0, .ref h0), (1, .int 6), (2, .int 10)]) hx hb dX6_wordFrom_80 hl (by decide) rfl (fun ls hl => ?_)
  refine lv_iinc (v := 1) (lv' := [(5, .int 1), (4, .int 0), (3, .int 2), (0, .ref h0), (1, .int 6), (2, .int 10)]) hx hb dX6_wordFrom_82 hl (k := 1) rfl (by decide) (by decide) rfl (fun ls hl => ?_)
  refine lv_goto (tgt := 26) hx hb dX6_wordFrom_85 (by decide) ?_
  refine lv_iload hx hb dX6_wordFrom_26 (lv_at hl 0 rfl) ?_
  refine lv_bipush (v := 8) hx hb dX6_wordFrom_28 (by decide) ?_
  refine lv_icmp_ge (tgt := 88) hx hb dX6_wordFrom_30 (by decide) (fun c_46 => ?_) (fun c_46 => ?_)
  · exact absurd c_46 (by decide)
  refine lv_iload hx hb dX6_wordFrom_33 (lv_at hl 1 rfl) ?_
  refine lv_if_eq (tgt := 88) hx hb dX6_wordFrom_35 (by decide) (fun c_47 => ?_) (fun c_47 => ?_)
  rotate_left
  · exact absurd (by decide) c_47
  refine lv_iload hx hb dX6_wordFrom_88 (lv_at hl 1 rfl) ?_
  refine lv_if_eq (tgt := 95) hx hb dX6_wordFrom_90 (by decide) (fun c_48 => ?_) (fun c_48 => ?_)
  rotate_left
  · exact absurd (by decide) c_48
  refine lv_iinc (v := 3) (lv' := [(3, .int 3), (5, .int 1), (4, .int 0), (0, .ref h0), (1, .int 6), (2, .int 10)]) hx hb dX6_wordFrom_95 hl (k := 2) rfl (by decide) (by decide) rfl (fun ls hl => ?_)
  refine lv_goto (tgt := 2) hx hb dX6_wordFrom_98 (by decide) ?_
  refine lv_iload_n hx hb dX6_wordFrom_2 rfl (lv_at hl 0 rfl) ?_
  refine lv_bipush (v := 12) hx hb dX6_wordFrom_3 (by decide) ?_
  refine lv_icmp_ge (tgt := 101) hx hb dX6_wordFrom_5 (by decide) (fun c_49 => ?_) (fun c_49 => ?_)
  · exact absurd c_49 (by decide)
  refine lv_iload_n hx hb dX6_wordFrom_8 rfl (lv_at hl 5 rfl) ?_
  refine lv_iload_n hx hb dX6_wordFrom_9 rfl (lv_at hl 4 rfl) ?_
  refine lv_isub hx hb dX6_wordFrom_10 ?_
  refine lv_topi (fun v_50 ev_50 => ?_)
  have ev_50 : v_50 = 4 := ev_50.trans (by decide)
  subst ev_50
  refine lv_bipush (v := 8) hx hb dX6_wordFrom_11 (by decide) ?_
  refine lv_icmp_gt (tgt := 20) hx hb dX6_wordFrom_13 (by decide) (fun c_51 => ?_) (fun c_51 => ?_)
  · exact absurd c_51 (by decide)
  refine lv_iconst (v := 1) hx hb dX6_wordFrom_16 (by decide) ?_
  refine lv_goto (tgt := 21) hx hb dX6_wordFrom_17 (by decide) ?_
  refine lv_istore (lv' := [(4, .int 1), (3, .int 3), (5, .int 1), (0, .ref h0), (1, .int 6), (2, .int 10)]) hx hb dX6_wordFrom_21 hl (by decide) rfl (fun ls hl => ?_)
  refine lv_iconst (v := 0) hx hb dX6_wordFrom_23 (by decide) ?_
  refine lv_istore (lv' := [(5, .int 0), (4, .int 1), (3, .int 3), (0, .ref h0), (1, .int 6), (2, .int 10)]) hx hb dX6_wordFrom_24 hl (by decide) rfl (fun ls hl => ?_)
  refine lv_iload hx hb dX6_wordFrom_26 (lv_at hl 0 rfl) ?_
  refine lv_bipush (v := 8) hx hb dX6_wordFrom_28 (by decide) ?_
  refine lv_icmp_ge (tgt := 88) hx hb dX6_wordFrom_30 (by decide) (fun c_52 => ?_) (fun c_52 => ?_)
  · exact absurd c_52 (by decide)
  refine lv_iload hx hb dX6_wordFrom_33 (lv_at hl 1 rfl) ?_
  refine lv_if_eq (tgt := 88) hx hb dX6_wordFrom_35 (by decide) (fun c_53 => ?_) (fun c_53 => ?_)
  · exact absurd c_53 (by decide)
  refine lv_aload_n hx hb dX6_wordFrom_38 rfl (lv_at hl 3 rfl) ?_
  refine va_get (D := G.1) (ci := 6) (v := .ref wo) (C := RX6) (T := TX6) (N := 42) hx hb hts hiX6 hown hK hP 0 rfl rfl 23 (by decide) kf49 (fun _ h9 => h9) rfl dX6_wordFrom_39 ?_
  refine lv_bipush (v := 8) hx hb dX6_wordFrom_42 (by decide) ?_
  refine lv_iload_n hx hb dX6_wordFrom_44 rfl (lv_at hl 2 rfl) ?_
  refine lv_imul hx hb dX6_wordFrom_45 ?_
  refine lv_topi (fun v_54 ev_54 => ?_)
  have ev_54 : v_54 = 24 := ev_54.trans (by decide)
  subst ev_54
  refine lv_iload hx hb dX6_wordFrom_46 (lv_at hl 0 rfl) ?_
  refine lv_iadd hx hb dX6_wordFrom_48 ?_
  refine lv_topi (fun v_55 ev_55 => ?_)
  have ev_55 : v_55 = 24 := ev_55.trans (by decide)
  subst ev_55
  refine va_iald (D := G.1) hx hb hK hP 2 0 rfl rfl (i := 24) (gIn (by decide)) dX6_wordFrom_49 ?_
  refine lv_topi (fun v_56 ev_56 => ?_)
  have ev_56 : v_56 = 115 := ev_56.trans (by decide)
  subst ev_56
  refine lv_iload_n hx hb dX6_wordFrom_50 rfl (lv_at hl 4 rfl) ?_
  refine lv_iload hx hb dX6_wordFrom_51 (lv_at hl 0 rfl) ?_
  refine lv_iadd hx hb dX6_wordFrom_53 ?_
  refine lv_topi (fun v_57 ev_57 => ?_)
  have ev_57 : v_57 = 6 := ev_57.trans (by decide)
  subst ev_57
  refine lv_iload_n hx hb dX6_wordFrom_54 rfl (lv_at hl 5 rfl) ?_
  refine lv_icmp_ge (tgt := 70) hx hb dX6_wordFrom_55 (by decide) (fun c_58 => ?_) (fun c_58 => ?_)
  · exact absurd c_58 (by decide)
  refine lv_aload_n hx hb dX6_wordFrom_58 rfl (lv_at hl 3 rfl) ?_
  refine va_get (D := G.1) (ci := 6) (v := .ref tp) (C := RX6) (T := TX6) (N := 42) hx hb hts hiX6 hown hK hP 0 rfl rfl 6 (by decide) kf22 (fun _ h9 => h9) rfl dX6_wordFrom_59 ?_
  refine lv_iload_n hx hb dX6_wordFrom_62 rfl (lv_at hl 4 rfl) ?_
  refine lv_iload hx hb dX6_wordFrom_63 (lv_at hl 0 rfl) ?_
  refine lv_iadd hx hb dX6_wordFrom_65 ?_
  refine lv_topi (fun v_59 ev_59 => ?_)
  have ev_59 : v_59 = 6 := ev_59.trans (by decide)
  subst ev_59
  refine va_iald (D := G.1) hx hb hK hP 1 0 rfl rfl (i := 6) (gIn (by decide)) dX6_wordFrom_66 ?_
  refine lv_topi (fun v_60 ev_60 => ?_)
  have ev_60 : v_60 = 115 := ev_60.trans (by decide)
  subst ev_60
  refine lv_goto (tgt := 72) hx hb dX6_wordFrom_67 (by decide) ?_
  refine lv_icmp_ne (tgt := 79) hx hb dX6_wordFrom_72 (by decide) (fun c_61 => ?_) (fun c_61 => ?_)
  · exact absurd (by decide) c_61
  refine lv_iconst (v := 1) hx hb dX6_wordFrom_75 (by decide) ?_
  refine lv_goto (tgt := 80) hx hb dX6_wordFrom_76 (by decide) ?_
  refine lv_istore (lv' := [(4, .int 1), (5, .int 0), (3, .int 3), (0, .ref h0), (1, .int 6), (2, .int 10)]) hx hb dX6_wordFrom_80 hl (by decide) rfl (fun ls hl => ?_)
  refine lv_iinc (v := 1) (lv' := [(5, .int 1), (4, .int 1), (3, .int 3), (0, .ref h0), (1, .int 6), (2, .int 10)]) hx hb dX6_wordFrom_82 hl (k := 1) rfl (by decide) (by decide) rfl (fun ls hl => ?_)
  refine lv_goto (tgt := 26) hx hb dX6_wordFrom_85 (by decide) ?_
  refine lv_iload hx hb dX6_wordFrom_26 (lv_at hl 0 rfl) ?_
  refine lv_bipush (v := 8) hx hb dX6_wordFrom_28 (by decide) ?_
  refine lv_icmp_ge (tgt := 88) hx hb dX6_wordFrom_30 (by decide) (fun c_62 => ?_) (fun c_62 => ?_)
  · exact absurd c_62 (by decide)
  refine lv_iload hx hb dX6_wordFrom_33 (lv_at hl 1 rfl) ?_
  refine lv_if_eq (tgt := 88) hx hb dX6_wordFrom_35 (by decide) (fun c_63 => ?_) (fun c_63 => ?_)
  · exact absurd c_63 (by decide)
  refine lv_aload_n hx hb dX6_wordFrom_38 rfl (lv_at hl 3 rfl) ?_
  refine va_get (D := G.1) (ci := 6) (v := .ref wo) (C := RX6) (T := TX6) (N := 42) hx hb hts hiX6 hown hK hP 0 rfl rfl 23 (by decide) kf49 (fun _ h9 => h9) rfl dX6_wordFrom_39 ?_
  refine lv_bipush (v := 8) hx hb dX6_wordFrom_42 (by decide) ?_
  refine lv_iload_n hx hb dX6_wordFrom_44 rfl (lv_at hl 2 rfl) ?_
  refine lv_imul hx hb dX6_wordFrom_45 ?_
  refine lv_topi (fun v_64 ev_64 => ?_)
  have ev_64 : v_64 = 24 := ev_64.trans (by decide)
  subst ev_64
  refine lv_iload hx hb dX6_wordFrom_46 (lv_at hl 0 rfl) ?_
  refine lv_iadd hx hb dX6_wordFrom_48 ?_
  refine lv_topi (fun v_65 ev_65 => ?_)
  have ev_65 : v_65 = 25 := ev_65.trans (by decide)
  subst ev_65
  refine va_iald (D := G.1) hx hb hK hP 2 0 rfl rfl (i := 25) (gIn (by decide)) dX6_wordFrom_49 ?_
  refine lv_topi (fun v_66 ev_66 => ?_)
  have ev_66 : v_66 = 105 := ev_66.trans (by decide)
  subst ev_66
  refine lv_iload_n hx hb dX6_wordFrom_50 rfl (lv_at hl 4 rfl) ?_
  refine lv_iload hx hb dX6_wordFrom_51 (lv_at hl 0 rfl) ?_
  refine lv_iadd hx hb dX6_wordFrom_53 ?_
  refine lv_topi (fun v_67 ev_67 => ?_)
  have ev_67 : v_67 = 7 := ev_67.trans (by decide)
  subst ev_67
  refine lv_iload_n hx hb dX6_wordFrom_54 rfl (lv_at hl 5 rfl) ?_
  refine lv_icmp_ge (tgt := 70) hx hb dX6_wordFrom_55 (by decide) (fun c_68 => ?_) (fun c_68 => ?_)
  · exact absurd c_68 (by decide)
  refine lv_aload_n hx hb dX6_wordFrom_58 rfl (lv_at hl 3 rfl) ?_
  refine va_get (D := G.1) (ci := 6) (v := .ref tp) (C := RX6) (T := TX6) (N := 42) hx hb hts hiX6 hown hK hP 0 rfl rfl 6 (by decide) kf22 (fun _ h9 => h9) rfl dX6_wordFrom_59 ?_
  refine lv_iload_n hx hb dX6_wordFrom_62 rfl (lv_at hl 4 rfl) ?_
  refine lv_iload hx hb dX6_wordFrom_63 (lv_at hl 0 rfl) ?_
  refine lv_iadd hx hb dX6_wordFrom_65 ?_
  refine lv_topi (fun v_69 ev_69 => ?_)
  have ev_69 : v_69 = 7 := ev_69.trans (by decide)
  subst ev_69
  refine va_iald (D := G.1) hx hb hK hP 1 0 rfl rfl (i := 7) (gIn (by decide)) dX6_wordFrom_66 ?_
  refine lv_topi (fun v_70 ev_70 => ?_)
  have ev_70 : v_70 = 105 := ev_70.trans (by decide)
  subst ev_70
  refine lv_goto (tgt := 72) hx hb dX6_wordFrom_67 (by decide) ?_
  refine lv_icmp_ne (tgt := 79) hx hb dX6_wordFrom_72 (by decide) (fun c_71 => ?_) (fun c_71 => ?_)
  · exact absurd (by decide) c_71
  refine lv_iconst (v := 1) hx hb dX6_wordFrom_75 (by decide) ?_
  refine lv_goto (tgt := 80) hx hb dX6_wordFrom_76 (by decide) ?_
  refine lv_istore (lv' := [(4, .int 1), (5, .int 1), (3, .int 3), (0, .ref h0), (1, .int 6), (2, .int 10)]) hx hb dX6_wordFrom_80 hl (by decide) rfl (fun ls hl => ?_)
  refine lv_iinc (v := 2) (lv' := [(5, .int 2), (4, .int 1), (3, .int 3), (0, .ref h0), (1, .int 6), (2, .int 10)]) hx hb dX6_wordFrom_82 hl (k := 1) rfl (by decide) (by decide) rfl (fun ls hl => ?_)
  refine lv_goto (tgt := 26) hx hb dX6_wordFrom_85 (by decide) ?_
  refine lv_iload hx hb dX6_wordFrom_26 (lv_at hl 0 rfl) ?_
  refine lv_bipush (v := 8) hx hb dX6_wordFrom_28 (by decide) ?_
  refine lv_icmp_ge (tgt := 88) hx hb dX6_wordFrom_30 (by decide) (fun c_72 => ?_) (fun c_72 => ?_)
  · exact absurd c_72 (by decide)
  refine lv_iload hx hb dX6_wordFrom_33 (lv_at hl 1 rfl) ?_
  refine lv_if_eq (tgt := 88) hx hb dX6_wordFrom_35 (by decide) (fun c_73 => ?_) (fun c_73 => ?_)
  · exact absurd c_73 (by decide)
  refine lv_aload_n hx hb dX6_wordFrom_38 rfl (lv_at hl 3 rfl) ?_
  refine va_get (D := G.1) (ci := 6) (v := .ref wo) (C := RX6) (T := TX6) (N := 42) hx hb hts hiX6 hown hK hP 0 rfl rfl 23 (by decide) kf49 (fun _ h9 => h9) rfl dX6_wordFrom_39 ?_
  refine lv_bipush (v := 8) hx hb dX6_wordFrom_42 (by decide) ?_
  refine lv_iload_n hx hb dX6_wordFrom_44 rfl (lv_at hl 2 rfl) ?_
  refine lv_imul hx hb dX6_wordFrom_45 ?_
  refine lv_topi (fun v_74 ev_74 => ?_)
  have ev_74 : v_74 = 24 := ev_74.trans (by decide)
  subst ev_74
  refine lv_iload hx hb dX6_wordFrom_46 (lv_at hl 0 rfl) ?_
  refine lv_iadd hx hb dX6_wordFrom_48 ?_
  refine lv_topi (fun v_75 ev_75 => ?_)
  have ev_75 : v_75 = 26 := ev_75.trans (by decide)
  subst ev_75
  refine va_iald (D := G.1) hx hb hK hP 2 0 rfl rfl (i := 26) (gIn (by decide)) dX6_wordFrom_49 ?_
  refine lv_topi (fun v_76 ev_76 => ?_)
  have ev_76 : v_76 = 122 := ev_76.trans (by decide)
  subst ev_76
  refine lv_iload_n hx hb dX6_wordFrom_50 rfl (lv_at hl 4 rfl) ?_
  refine lv_iload hx hb dX6_wordFrom_51 (lv_at hl 0 rfl) ?_
  refine lv_iadd hx hb dX6_wordFrom_53 ?_
  refine lv_topi (fun v_77 ev_77 => ?_)
  have ev_77 : v_77 = 8 := ev_77.trans (by decide)
  subst ev_77
  refine lv_iload_n hx hb dX6_wordFrom_54 rfl (lv_at hl 5 rfl) ?_
  refine lv_icmp_ge (tgt := 70) hx hb dX6_wordFrom_55 (by decide) (fun c_78 => ?_) (fun c_78 => ?_)
  · exact absurd c_78 (by decide)
  refine lv_aload_n hx hb dX6_wordFrom_58 rfl (lv_at hl 3 rfl) ?_
  refine va_get (D := G.1) (ci := 6) (v := .ref tp) (C := RX6) (T := TX6) (N := 42) hx hb hts hiX6 hown hK hP 0 rfl rfl 6 (by decide) kf22 (fun _ h9 => h9) rfl dX6_wordFrom_59 ?_
  refine lv_iload_n hx hb dX6_wordFrom_62 rfl (lv_at hl 4 rfl) ?_
  refine lv_iload hx hb dX6_wordFrom_63 (lv_at hl 0 rfl) ?_
  refine lv_iadd hx hb dX6_wordFrom_65 ?_
  refine lv_topi (fun v_79 ev_79 => ?_)
  have ev_79 : v_79 = 8 := ev_79.trans (by decide)
  subst ev_79
  refine va_iald (D := G.1) hx hb hK hP 1 0 rfl rfl (i := 8) (gIn (by decide)) dX6_wordFrom_66 ?_
  refine lv_topi (fun v_80 ev_80 => ?_)
  have ev_80 : v_80 = 122 := ev_80.trans (by decide)
  subst ev_80
  refine lv_goto (tgt := 72) hx hb dX6_wordFrom_67 (by decide) ?_
  refine lv_icmp_ne (tgt := 79) hx hb dX6_wordFrom_72 (by decide) (fun c_81 => ?_) (fun c_81 => ?_)
  · exact absurd (by decide) c_81
  refine lv_iconst (v := 1) hx hb dX6_wordFrom_75 (by decide) ?_
  refine lv_goto (tgt := 80) hx hb dX6_wordFrom_76 (by decide) ?_
  refine lv_istore (lv' := [(4, .int 1), (5, .int 2), (3, .int 3), (0, .ref h0), (1, .int 6), (2, .int 10)]) hx hb dX6_wordFrom_80 hl (by decide) rfl (fun ls hl => ?_)
  refine lv_iinc (v := 3) (lv' := [(5, .int 3), (4, .int 1), (3, .int 3), (0, .ref h0), (1, .int 6), (2, .int 10)]) hx hb dX6_wordFrom_82 hl (k := 1) rfl (by decide) (by decide) rfl (fun ls hl => ?_)
  refine lv_goto (tgt := 26) hx hb dX6_wordFrom_85 (by decide) ?_
  refine lv_iload hx hb dX6_wordFrom_26 (lv_at hl 0 rfl) ?_
  refine lv_bipush (v := 8) hx hb dX6_wordFrom_28 (by decide) ?_
  refine lv_icmp_ge (tgt := 88) hx hb dX6_wordFrom_30 (by decide) (fun c_82 => ?_) (fun c_82 => ?_)
  · exact absurd c_82 (by decide)
  refine lv_iload hx hb dX6_wordFrom_33 (lv_at hl 1 rfl) ?_
  refine lv_if_eq (tgt := 88) hx hb dX6_wordFrom_35 (by decide) (fun c_83 => ?_) (fun c_83 => ?_)
  · exact absurd c_83 (by decide)
  refine lv_aload_n hx hb dX6_wordFrom_38 rfl (lv_at hl 3 rfl) ?_
  refine va_get (D := G.1) (ci := 6) (v := .ref wo) (C := RX6) (T := TX6) (N := 42) hx hb hts hiX6 hown hK hP 0 rfl rfl 23 (by decide) kf49 (fun _ h9 => h9) rfl dX6_wordFrom_39 ?_
  refine lv_bipush (v := 8) hx hb dX6_wordFrom_42 (by decide) ?_
  refine lv_iload_n hx hb dX6_wordFrom_44 rfl (lv_at hl 2 rfl) ?_
  refine lv_imul hx hb dX6_wordFrom_45 ?_
  refine lv_topi (fun v_84 ev_84 => ?_)
  have ev_84 : v_84 = 24 := ev_84.trans (by decide)
  subst ev_84
  refine lv_iload hx hb dX6_wordFrom_46 (lv_at hl 0 rfl) ?_
  refine lv_iadd hx hb dX6_wordFrom_48 ?_
  refine lv_topi (fun v_85 ev_85 => ?_)
  have ev_85 : v_85 = 27 := ev_85.trans (by decide)
  subst ev_85
  refine va_iald (D := G.1) hx hb hK hP 2 0 rfl rfl (i := 27) (gIn (by decide)) dX6_wordFrom_49 ?_
  refine lv_topi (fun v_86 ev_86 => ?_)
  have ev_86 : v_86 = 101 := ev_86.trans (by decide)
  subst ev_86
  refine lv_iload_n hx hb dX6_wordFrom_50 rfl (lv_at hl 4 rfl) ?_
  refine lv_iload hx hb dX6_wordFrom_51 (lv_at hl 0 rfl) ?_
  refine lv_iadd hx hb dX6_wordFrom_53 ?_
  refine lv_topi (fun v_87 ev_87 => ?_)
  have ev_87 : v_87 = 9 := ev_87.trans (by decide)
  subst ev_87
  refine lv_iload_n hx hb dX6_wordFrom_54 rfl (lv_at hl 5 rfl) ?_
  refine lv_icmp_ge (tgt := 70) hx hb dX6_wordFrom_55 (by decide) (fun c_88 => ?_) (fun c_88 => ?_)
  · exact absurd c_88 (by decide)
  refine lv_aload_n hx hb dX6_wordFrom_58 rfl (lv_at hl 3 rfl) ?_
  refine va_get (D := G.1) (ci := 6) (v := .ref tp) (C := RX6) (T := TX6) (N := 42) hx hb hts hiX6 hown hK hP 0 rfl rfl 6 (by decide) kf22 (fun _ h9 => h9) rfl dX6_wordFrom_59 ?_
  refine lv_iload_n hx hb dX6_wordFrom_62 rfl (lv_at hl 4 rfl) ?_
  refine lv_iload hx hb dX6_wordFrom_63 (lv_at hl 0 rfl) ?_
  refine lv_iadd hx hb dX6_wordFrom_65 ?_
  refine lv_topi (fun v_89 ev_89 => ?_)
  have ev_89 : v_89 = 9 := ev_89.trans (by decide)
  subst ev_89
  refine va_iald (D := G.1) hx hb hK hP 1 0 rfl rfl (i := 9) (gIn (by decide)) dX6_wordFrom_66 ?_
  refine lv_topi (fun v_90 ev_90 => ?_)
  have ev_90 : v_90 = 101 := ev_90.trans (by decide)
  subst ev_90
  refine lv_goto (tgt := 72) hx hb dX6_wordFrom_67 (by decide) ?_
  refine lv_icmp_ne (tgt := 79) hx hb dX6_wordFrom_72 (by decide) (fun c_91 => ?_) (fun c_91 => ?_)
  · exact absurd (by decide) c_91
  refine lv_iconst (v := 1) hx hb dX6_wordFrom_75 (by decide) ?_
  refine lv_goto (tgt := 80) hx hb dX6_wordFrom_76 (by decide) ?_
  refine lv_istore (lv' := [(4, .int 1), (5, .int 3), (3, .int 3), (0, .ref h0), (1, .int 6), (2, .int 10)]) hx hb dX6_wordFrom_80 hl (by decide) rfl (fun ls hl => ?_)
  refine lv_iinc (v := 4) (lv' := [(5, .int 4), (4, .int 1), (3, .int 3), (0, .ref h0), (1, .int 6), (2, .int 10)]) hx hb dX6_wordFrom_82 hl (k := 1) rfl (by decide) (by decide) rfl (fun ls hl => ?_)
  refine lv_goto (tgt := 26) hx hb dX6_wordFrom_85 (by decide) ?_
  refine lv_iload hx hb dX6_wordFrom_26 (lv_at hl 0 rfl) ?_
  refine lv_bipush (v := 8) hx hb dX6_wordFrom_28 (by decide) ?_
  refine lv_icmp_ge (tgt := 88) hx hb dX6_wordFrom_30 (by decide) (fun c_92 => ?_) (fun c_92 => ?_)
  · exact absurd c_92 (by decide)
  refine lv_iload hx hb dX6_wordFrom_33 (lv_at hl 1 rfl) ?_
  refine lv_if_eq (tgt := 88) hx hb dX6_wordFrom_35 (by decide) (fun c_93 => ?_) (fun c_93 => ?_)
  · exact absurd c_93 (by decide)
  refine lv_aload_n hx hb dX6_wordFrom_38 rfl (lv_at hl 3 rfl) ?_
  refine va_get (D := G.1) (ci := 6) (v := .ref wo) (C := RX6) (T := TX6) (N := 42) hx hb hts hiX6 hown hK hP 0 rfl rfl 23 (by decide) kf49 (fun _ h9 => h9) rfl dX6_wordFrom_39 ?_
  refine lv_bipush (v := 8) hx hb dX6_wordFrom_42 (by decide) ?_
  refine lv_iload_n hx hb dX6_wordFrom_44 rfl (lv_at hl 2 rfl) ?_
  refine lv_imul hx hb dX6_wordFrom_45 ?_
  refine lv_topi (fun v_94 ev_94 => ?_)
  have ev_94 : v_94 = 24 := ev_94.trans (by decide)
  subst ev_94
  refine lv_iload hx hb dX6_wordFrom_46 (lv_at hl 0 rfl) ?_
  refine lv_iadd hx hb dX6_wordFrom_48 ?_
  refine lv_topi (fun v_95 ev_95 => ?_)
  have ev_95 : v_95 = 28 := ev_95.trans (by decide)
  subst ev_95
  refine va_iald (D := G.1) hx hb hK hP 2 0 rfl rfl (i := 28) (gIn (by decide)) dX6_wordFrom_49 ?_
  refine lv_topi (fun v_96 ev_96 => ?_)
  have ev_96 : v_96 = 32 := ev_96.trans (by decide)
  subst ev_96
  refine lv_iload_n hx hb dX6_wordFrom_50 rfl (lv_at hl 4 rfl) ?_
  refine lv_iload hx hb dX6_wordFrom_51 (lv_at hl 0 rfl) ?_
  refine lv_iadd hx hb dX6_wordFrom_53 ?_
  refine lv_topi (fun v_97 ev_97 => ?_)
  have ev_97 : v_97 = 10 := ev_97.trans (by decide)
  subst ev_97
  refine lv_iload_n hx hb dX6_wordFrom_54 rfl (lv_at hl 5 rfl) ?_
  refine lv_icmp_ge (tgt := 70) hx hb dX6_wordFrom_55 (by decide) (fun c_98 => ?_) (fun c_98 => ?_)
  rotate_left
  · exact absurd (by decide) c_98
  refine lv_bipush (v := 32) hx hb dX6_wordFrom_70 (by decide) ?_
  refine lv_icmp_ne (tgt := 79) hx hb dX6_wordFrom_72 (by decide) (fun c_99 => ?_) (fun c_99 => ?_)
  · exact absurd (by decide) c_99
  refine lv_iconst (v := 1) hx hb dX6_wordFrom_75 (by decide) ?_
  refine lv_goto (tgt := 80) hx hb dX6_wordFrom_76 (by decide) ?_
  refine lv_istore (lv' := [(4, .int 1), (5, .int 4), (3, .int 3), (0, .ref h0), (1, .int 6), (2, .int 10)]) hx hb dX6_wordFrom_80 hl (by decide) rfl (fun ls hl => ?_)
  refine lv_iinc (v := 5) (lv' := [(5, .int 5), (4, .int 1), (3, .int 3), (0, .ref h0), (1, .int 6), (2, .int 10)]) hx hb dX6_wordFrom_82 hl (k := 1) rfl (by decide) (by decide) rfl (fun ls hl => ?_)
  refine lv_goto (tgt := 26) hx hb dX6_wordFrom_85 (by decide) ?_
  refine lv_iload hx hb dX6_wordFrom_26 (lv_at hl 0 rfl) ?_
  refine lv_bipush (v := 8) hx hb dX6_wordFrom_28 (by decide) ?_
  refine lv_icmp_ge (tgt := 88) hx hb dX6_wordFrom_30 (by decide) (fun c_100 => ?_) (fun c_100 => ?_)
  · exact absurd c_100 (by decide)
  refine lv_iload hx hb dX6_wordFrom_33 (lv_at hl 1 rfl) ?_
  refine lv_if_eq (tgt := 88) hx hb dX6_wordFrom_35 (by decide) (fun c_101 => ?_) (fun c_101 => ?_)
  · exact absurd c_101 (by decide)
  refine lv_aload_n hx hb dX6_wordFrom_38 rfl (lv_at hl 3 rfl) ?_
  refine va_get (D := G.1) (ci := 6) (v := .ref wo) (C := RX6) (T := TX6) (N := 42) hx hb hts hiX6 hown hK hP 0 rfl rfl 23 (by decide) kf49 (fun _ h9 => h9) rfl dX6_wordFrom_39 ?_
  refine lv_bipush (v := 8) hx hb dX6_wordFrom_42 (by decide) ?_
  refine lv_iload_n hx hb dX6_wordFrom_44 rfl (lv_at hl 2 rfl) ?_
  refine lv_imul hx hb dX6_wordFrom_45 ?_
  refine lv_topi (fun v_102 ev_102 => ?_)
  have ev_102 : v_102 = 24 := ev_102.trans (by decide)
  subst ev_102
  refine lv_iload hx hb dX6_wordFrom_46 (lv_at hl 0 rfl) ?_
  refine lv_iadd hx hb dX6_wordFrom_48 ?_
  refine lv_topi (fun v_103 ev_103 => ?_)
  have ev_103 : v_103 = 29 := ev_103.trans (by decide)
  subst ev_103
  refine va_iald (D := G.1) hx hb hK hP 2 0 rfl rfl (i := 29) (gIn (by decide)) dX6_wordFrom_49 ?_
  refine lv_topi (fun v_104 ev_104 => ?_)
  have ev_104 : v_104 = 32 := ev_104.trans (by decide)
  subst ev_104
  refine lv_iload_n hx hb dX6_wordFrom_50 rfl (lv_at hl 4 rfl) ?_
  refine lv_iload hx hb dX6_wordFrom_51 (lv_at hl 0 rfl) ?_
  refine lv_iadd hx hb dX6_wordFrom_53 ?_
  refine lv_topi (fun v_105 ev_105 => ?_)
  have ev_105 : v_105 = 11 := ev_105.trans (by decide)
  subst ev_105
  refine lv_iload_n hx hb dX6_wordFrom_54 rfl (lv_at hl 5 rfl) ?_
  refine lv_icmp_ge (tgt := 70) hx hb dX6_wordFrom_55 (by decide) (fun c_106 => ?_) (fun c_106 => ?_)
  rotate_left
  · exact absurd (by decide) c_106
  refine lv_bipush (v := 32) hx hb dX6_wordFrom_70 (by decide) ?_
  refine lv_icmp_ne (tgt := 79) hx hb dX6_wordFrom_72 (by decide) (fun c_107 => ?_) (fun c_107 => ?_)
  · exact absurd (by decide) c_107
  refine lv_iconst (v := 1) hx hb dX6_wordFrom_75 (by decide) ?_
  refine lv_goto (tgt := 80) hx hb dX6_wordFrom_76 (by decide) ?_
  refine lv_istore (lv' := [(4, .int 1), (5, .int 5), (3, .int 3), (0, .ref h0), (1, .int 6), (2, .int 10)]) hx hb dX6_wordFrom_80 hl (by decide) rfl (fun ls hl => ?_)
  refine lv_iinc (v := 6) (lv' := [(5, .int 6), (4, .int 1), (3, .int 3), (0, .ref h0), (1, .int 6), (2, .int 10)]) hx hb dX6_wordFrom_82 hl (k := 1) rfl (by decide) (by decide) rfl (fun ls hl => ?_)
  refine lv_goto (tgt := 26) hx hb dX6_wordFrom_85 (by decide) ?_
  refine lv_iload hx hb dX6_wordFrom_26 (lv_at hl 0 rfl) ?_
  refine lv_bipush (v := 8) hx hb dX6_wordFrom_28 (by decide) ?_
  refine lv_icmp_ge (tgt := 88) hx hb dX6_wordFrom_30 (by decide) (fun c_108 => ?_) (fun c_108 => ?_)
  · exact absurd c_108 (by decide)
  refine lv_iload hx hb dX6_wordFrom_33 (lv_at hl 1 rfl) ?_
  refine lv_if_eq (tgt := 88) hx hb dX6_wordFrom_35 (by decide) (fun c_109 => ?_) (fun c_109 => ?_)
  · exact absurd c_109 (by decide)
  refine lv_aload_n hx hb dX6_wordFrom_38 rfl (lv_at hl 3 rfl) ?_
  refine va_get (D := G.1) (ci := 6) (v := .ref wo) (C := RX6) (T := TX6) (N := 42) hx hb hts hiX6 hown hK hP 0 rfl rfl 23 (by decide) kf49 (fun _ h9 => h9) rfl dX6_wordFrom_39 ?_
  refine lv_bipush (v := 8) hx hb dX6_wordFrom_42 (by decide) ?_
  refine lv_iload_n hx hb dX6_wordFrom_44 rfl (lv_at hl 2 rfl) ?_
  refine lv_imul hx hb dX6_wordFrom_45 ?_
  refine lv_topi (fun v_110 ev_110 => ?_)
  have ev_110 : v_110 = 24 := ev_110.trans (by decide)
  subst ev_110
  refine lv_iload hx hb dX6_wordFrom_46 (lv_at hl 0 rfl) ?_
  refine lv_iadd hx hb dX6_wordFrom_48 ?_
  refine lv_topi (fun v_111 ev_111 => ?_)
  have ev_111 : v_111 = 30 := ev_111.trans (by decide)
  subst ev_111
  refine va_iald (D := G.1) hx hb hK hP 2 0 rfl rfl (i := 30) (gIn (by decide)) dX6_wordFrom_49 ?_
  refine lv_topi (fun v_112 ev_112 => ?_)
  have ev_112 : v_112 = 32 := ev_112.trans (by decide)
  subst ev_112
  refine lv_iload_n hx hb dX6_wordFrom_50 rfl (lv_at hl 4 rfl) ?_
  refine lv_iload hx hb dX6_wordFrom_51 (lv_at hl 0 rfl) ?_
  refine lv_iadd hx hb dX6_wordFrom_53 ?_
  refine lv_topi (fun v_113 ev_113 => ?_)
  have ev_113 : v_113 = 12 := ev_113.trans (by decide)
  subst ev_113
  refine lv_iload_n hx hb dX6_wordFrom_54 rfl (lv_at hl 5 rfl) ?_
  refine lv_icmp_ge (tgt := 70) hx hb dX6_wordFrom_55 (by decide) (fun c_114 => ?_) (fun c_114 => ?_)
  rotate_left
  · exact absurd (by decide) c_114
  refine lv_bipush (v := 32) hx hb dX6_wordFrom_70 (by decide) ?_
  refine lv_icmp_ne (tgt := 79) hx hb dX6_wordFrom_72 (by decide) (fun c_115 => ?_) (fun c_115 => ?_)
  · exact absurd (by decide) c_115
  refine lv_iconst (v := 1) hx hb dX6_wordFrom_75 (by decide) ?_
  refine lv_goto (tgt := 80) hx hb dX6_wordFrom_76 (by decide) ?_
  refine lv_istore (lv' := [(4, .int 1), (5, .int 6), (3, .int 3), (0, .ref h0), (1, .int 6), (2, .int 10)]) hx hb dX6_wordFrom_80 hl (by decide) rfl (fun ls hl => ?_)
  refine lv_iinc (v := 7) (lv' := [(5, .int 7), (4, .int 1), (3, .int 3), (0, .ref h0), (1, .int 6), (2, .int 10)]) hx hb dX6_wordFrom_82 hl (k := 1) rfl (by decide) (by decide) rfl (fun ls hl => ?_)
  refine lv_goto (tgt := 26) hx hb dX6_wordFrom_85 (by decide) ?_
  refine lv_iload hx hb dX6_wordFrom_26 (lv_at hl 0 rfl) ?_
  refine lv_bipush (v := 8) hx hb dX6_wordFrom_28 (by decide) ?_
  refine lv_icmp_ge (tgt := 88) hx hb dX6_wordFrom_30 (by decide) (fun c_116 => ?_) (fun c_116 => ?_)
  · exact absurd c_116 (by decide)
  refine lv_iload hx hb dX6_wordFrom_33 (lv_at hl 1 rfl) ?_
  refine lv_if_eq (tgt := 88) hx hb dX6_wordFrom_35 (by decide) (fun c_117 => ?_) (fun c_117 => ?_)
  · exact absurd c_117 (by decide)
  refine lv_aload_n hx hb dX6_wordFrom_38 rfl (lv_at hl 3 rfl) ?_
  refine va_get (D := G.1) (ci := 6) (v := .ref wo) (C := RX6) (T := TX6) (N := 42) hx hb hts hiX6 hown hK hP 0 rfl rfl 23 (by decide) kf49 (fun _ h9 => h9) rfl dX6_wordFrom_39 ?_
  refine lv_bipush (v := 8) hx hb dX6_wordFrom_42 (by decide) ?_
  refine lv_iload_n hx hb dX6_wordFrom_44 rfl (lv_at hl 2 rfl) ?_
  refine lv_imul hx hb dX6_wordFrom_45 ?_
  refine lv_topi (fun v_118 ev_118 => ?_)
  have ev_118 : v_118 = 24 := ev_118.trans (by decide)
  subst ev_118
  refine lv_iload hx hb dX6_wordFrom_46 (lv_at hl 0 rfl) ?_
  refine lv_iadd hx hb dX6_wordFrom_48 ?_
  refine lv_topi (fun v_119 ev_119 => ?_)
  have ev_119 : v_119 = 31 := ev_119.trans (by decide)
  subst ev_119
  refine va_iald (D := G.1) hx hb hK hP 2 0 rfl rfl (i := 31) (gIn (by decide)) dX6_wordFrom_49 ?_
  refine lv_topi (fun v_120 ev_120 => ?_)
  have ev_120 : v_120 = 32 := ev_120.trans (by decide)
  subst ev_120
  refine lv_iload_n hx hb dX6_wordFrom_50 rfl (lv_at hl 4 rfl) ?_
  refine lv_iload hx hb dX6_wordFrom_51 (lv_at hl 0 rfl) ?_
  refine lv_iadd hx hb dX6_wordFrom_53 ?_
  refine lv_topi (fun v_121 ev_121 => ?_)
  have ev_121 : v_121 = 13 := ev_121.trans (by decide)
  subst ev_121
  refine lv_iload_n hx hb dX6_wordFrom_54 rfl (lv_at hl 5 rfl) ?_
  refine lv_icmp_ge (tgt := 70) hx hb dX6_wordFrom_55 (by decide) (fun c_122 => ?_) (fun c_122 => ?_)
  rotate_left
  · exact absurd (by decide) c_122
  refine lv_bipush (v := 32) hx hb dX6_wordFrom_70 (by decide) ?_
  refine lv_icmp_ne (tgt := 79) hx hb dX6_wordFrom_72 (by decide) (fun c_123 => ?_) (fun c_123 => ?_)
  · exact absurd (by decide) c_123
  refine lv_iconst (v := 1) hx hb dX6_wordFrom_75 (by decide) ?_
  refine lv_goto (tgt := 80) hx hb dX6_wordFrom_76 (by decide) ?_
  refine lv_istore (lv' := [(4, .int 1), (5, .int 7), (3, .int 3), (0, .ref h0), (1, .int 6), (2, .int 10)]) hx hb dX6_wordFrom_80 hl (by decide) rfl (fun ls hl => ?_)
  refine lv_iinc (v := 8) (lv' := [(5, .int 8), (4, .int 1), (3, .int 3), (0, .ref h0), (1, .int 6), (2, .int 10)]) hx hb dX6_wordFrom_82 hl (k := 1) rfl (by decide) (by decide) rfl (fun ls hl => ?_)
  refine lv_goto (tgt := 26) hx hb dX6_wordFrom_85 (by decide) ?_
  refine lv_iload hx hb dX6_wordFrom_26 (lv_at hl 0 rfl) ?_
  refine lv_bipush (v := 8) hx hb dX6_wordFrom_28 (by decide) ?_
  refine lv_icmp_ge (tgt := 88) hx hb dX6_wordFrom_30 (by decide) (fun c_124 => ?_) (fun c_124 => ?_)
  rotate_left
  · exact absurd (by decide) c_124
  refine lv_iload hx hb dX6_wordFrom_88 (lv_at hl 1 rfl) ?_
  refine lv_if_eq (tgt := 95) hx hb dX6_wordFrom_90 (by decide) (fun c_125 => ?_) (fun c_125 => ?_)
  · exact absurd c_125 (by decide)
  refine lv_iload_n hx hb dX6_wordFrom_93 rfl (lv_at hl 2 rfl) ?_
  have hP9 := hP.sub (ws' := [(h0, .inr (6, [.int 0, .ref kd, .ref mo, .ref st, .int 0, .ref ro, .ref tp, .int 40, .ref cd, .ref sr, .int 0, .int 0, .int 0, .ref ir, .ref ih, .ref ss, .ref sq, .ref ce, .ref lw, .int 10, .int 6, .int 0, .int 0, .ref wo, .ref he, .int 0, .int 0, .int 0, .ref sk, .ref na, .ref kp, .int 0, .int 0, .int 0, .int 0, .ref gb, .ref go, .ref fa, .ref ga, .int 0, .int 0, .ref vo])), (tp, .inl (G.2.1, 160, .inl (gPf tB 40))), (wo, .inl (G.2.1, 96, .inl (gPf tW 96)))]) [0, 1, 2] rfl
  have hD9 := hD.sub (ws' := [(h0, .inr (6, [.int 0, .ref kd, .ref mo, .ref st, .int 0, .ref ro, .ref tp, .int 40, .ref cd, .ref sr, .int 0, .int 0, .int 0, .ref ir, .ref ih, .ref ss, .ref sq, .ref ce, .ref lw, .int 10, .int 6, .int 0, .int 0, .ref wo, .ref he, .int 0, .int 0, .int 0, .ref sk, .ref na, .ref kp, .int 0, .int 0, .int 0, .int 0, .ref gb, .ref go, .ref fa, .ref ga, .int 0, .int 0, .ref vo])), (tp, .inl (G.2.1, 160, .inl (gPf tB 40))), (wo, .inl (G.2.1, 96, .inl (gPf tW 96)))]) [0, 1, 2] (by decide) rfl
  have hpost : (fun (r : Int32) (u : Unit) => match u with | _ => r = 3) 3 () := by first | rfl | trivial
  exact W.iret (v := 3) hx hb hr (fun t ht hW => ⟨⟨3, (), rfl, hpost, by rw [ht]; exact hP9, va_K.moved hW.alike hK, hD9⟩, hS.F ht⟩) hS.2.2 dX6_wordFrom_94
abbrev q_X6_next_z9 (G : gG) (h0 kd mo st ro tp cd sr ir ih ss sq ce lw wo he sk na kp gb go fa ga vo : Nat) (A : Nat → Prop) : Array Value → State → Outcome → State → Prop := va_Qv (fun (u : Unit) => match u with | _ => True) (fun (u : Unit) t => match u with | _ => va_P G.1 vwCl [(h0, .inr (6, [.int 0, .ref kd, .ref mo, .ref st, .int 0, .ref ro, .ref tp, .int 40, .ref cd, .ref sr, .int 0, .int 0, .int 0, .ref ir, .ref ih, .ref ss, .ref sq, .ref ce, .ref lw, .int 10, .int 6, .int 2, .int 0, .ref wo, .ref he, .int 0, .int 0, .int 0, .ref sk, .ref na, .ref kp, .int 0, .int 0, .int 0, .int 0, .ref gb, .ref go, .ref fa, .ref ga, .int 0, .int 0, .ref vo])), (tp, .inl (G.2.1, 160, .inl (gPf tB 40))), (wo, .inl (G.2.1, 96, .inl (gPf tW 96)))] t.heap ∧ gK G t ∧ va_D A [(h0, .inr (6, [.int 0, .ref kd, .ref mo, .ref st, .int 0, .ref ro, .ref tp, .int 40, .ref cd, .ref sr, .int 0, .int 0, .int 0, .ref ir, .ref ih, .ref ss, .ref sq, .ref ce, .ref lw, .int 10, .int 6, .int 2, .int 0, .ref wo, .ref he, .int 0, .int 0, .int 0, .ref sk, .ref na, .ref kp, .int 0, .int 0, .int 0, .int 0, .ref gb, .ref go, .ref fa, .ref ga, .int 0, .int 0, .ref vo])), (tp, .inl (G.2.1, 160, .inl (gPf tB 40))), (wo, .inl (G.2.1, 96, .inl (gPf tW 96)))]) A
set_option maxHeartbeats 4000000 in
set_option maxRecDepth 100000 in
theorem c_X6_next_z9 (l : Launch) (G : gG) (h0 kd mo st ro tp cd sr ir ih ss sq ce lw wo he sk na kp gb go fa ga vo : Nat) (sz : Nat) : Met l yX6_next wsX6_next ({ frames := 1, cells := 0, slots := 0, locals := 25 }) (gPre G [.ref h0] [(h0, .inr (6, [.int 0, .ref kd, .ref mo, .ref st, .int 0, .ref ro, .ref tp, .int 40, .ref cd, .ref sr, .int 0, .int 0, .int 0, .ref ir, .ref ih, .ref ss, .ref sq, .ref ce, .ref lw, .int 5, .int 0, .int 3, .int 0, .ref wo, .ref he, .int 0, .int 0, .int 0, .ref sk, .ref na, .ref kp, .int 0, .int 0, .int 0, .int 0, .ref gb, .ref go, .ref fa, .ref ga, .int 0, .int 0, .ref vo])), (tp, .inl (G.2.1, 160, .inl (gPf tB 40))), (wo, .inl (G.2.1, 96, .inl (gPf tW 96)))] sz) (q_X6_next_z9 G h0 kd mo st ro tp cd sr ir ih ss sq ce lw wo he sk na kp gb go fa ga vo (va_A [(h0, .inr (6, [.int 0, .ref kd, .ref mo, .ref st, .int 0, .ref ro, .ref tp, .int 40, .ref cd, .ref sr, .int 0, .int 0, .int 0, .ref ir, .ref ih, .ref ss, .ref sq, .ref ce, .ref lw, .int 5, .int 0, .int 3, .int 0, .ref wo, .ref he, .int 0, .int 0, .int 0, .ref sk, .ref na, .ref kp, .int 0, .int 0, .int 0, .int 0, .ref gb, .ref go, .ref fa, .ref ga, .int 0, .int 0, .ref vo])), (tp, .inl (G.2.1, 160, .inl (gPf tB 40))), (wo, .inl (G.2.1, 96, .inl (gPf tW 96)))] sz)) 0 0 (va_A [(h0, .inr (6, [.int 0, .ref kd, .ref mo, .ref st, .int 0, .ref ro, .ref tp, .int 40, .ref cd, .ref sr, .int 0, .int 0, .int 0, .ref ir, .ref ih, .ref ss, .ref sq, .ref ce, .ref lw, .int 5, .int 0, .int 3, .int 0, .ref wo, .ref he, .int 0, .int 0, .int 0, .ref sk, .ref na, .ref kp, .int 0, .int 0, .int 0, .int 0, .ref gb, .ref go, .ref fa, .ref ga, .int 0, .int 0, .ref vo])), (tp, .inl (G.2.1, 160, .inl (gPf tB 40))), (wo, .inl (G.2.1, 96, .inl (gPf tW 96)))] sz) := by
  refine Met.ofW (cc := cX6_next) (maxL := 3) (ret := none) (by decide) rfl ?_
  intro p e s m args below meth c s₁ B hml hv
  obtain ⟨rfl, hsz, hP, hK, hD0⟩ := hv
  have hx := B.exec
  have hb := B.bytes
  have hr := B.returns
  have hts := atoms_spec (ws := wsX6_next) B.pre
  have hown : s.vm.findClass RX6 = some m.cls := findClass_of_methodNamed B.named
  have hlocks := B.notSynchronized
  subst hsz
  have hD := hD0.self (sz := s.heap.size)
  generalize hAe : va_A [(h0, .inr (6, [.int 0, .ref kd, .ref mo, .ref st, .int 0, .ref ro, .ref tp, .int 40, .ref cd, .ref sr, .int 0, .int 0, .int 0, .ref ir, .ref ih, .ref ss, .ref sq, .ref ce, .ref lw, .int 5, .int 0, .int 3, .int 0, .ref wo, .ref he, .int 0, .int 0, .int 0, .ref sk, .ref na, .ref kp, .int 0, .int 0, .int 0, .int 0, .ref gb, .ref go, .ref fa, .ref ga, .int 0, .int 0, .ref vo])), (tp, .inl (G.2.1, 160, .inl (gPf tB 40))), (wo, .inl (G.2.1, 96, .inl (gPf tW 96)))] s.heap.size = A at hD ⊢
  have hA : ∀ q : Nat, s.heap.size ≤ q → A q := fun q h => by rw [← hAe]; exact Or.inr h
  have hS : va_S A s.heap s.heap [] := va_S.rf
  have hP : va_P G.1 vwCl [(h0, .inr (6, [.int 0, .ref kd, .ref mo, .ref st, .int 0, .ref ro, .ref tp, .int 40, .ref cd, .ref sr, .int 0, .int 0, .int 0, .ref ir, .ref ih, .ref ss, .ref sq, .ref ce, .ref lw, .int 5, .int 0, .int 3, .int 0, .ref wo, .ref he, .int 0, .int 0, .int 0, .ref sk, .ref na, .ref kp, .int 0, .int 0, .int 0, .int 0, .ref gb, .ref go, .ref fa, .ref ga, .int 0, .int 0, .ref vo])), (tp, .inl (G.2.1, 160, .inl (gPf tB 40))), (wo, .inl (G.2.1, 96, .inl (gPf tW 96)))] s.heap := hP
  have hD : va_D A [(h0, .inr (6, [.int 0, .ref kd, .ref mo, .ref st, .int 0, .ref ro, .ref tp, .int 40, .ref cd, .ref sr, .int 0, .int 0, .int 0, .ref ir, .ref ih, .ref ss, .ref sq, .ref ce, .ref lw, .int 5, .int 0, .int 3, .int 0, .ref wo, .ref he, .int 0, .int 0, .int 0, .ref sk, .ref na, .ref kp, .int 0, .int 0, .int 0, .int 0, .ref gb, .ref go, .ref fa, .ref ga, .int 0, .int 0, .ref vo])), (tp, .inl (G.2.1, 160, .inl (gPf tB 40))), (wo, .inl (G.2.1, 96, .inl (gPf tW 96)))] := hD
  have hl := lv_entry ([.ref h0]) (n := 3) (Nat.le_of_ble_eq_true rfl)
  rw [lg_entry_eq]
  generalize (lg_sl ([.ref h0]) ++ List.replicate (3 - (lg_sl ([.ref h0])).length) Slot.unset).toArray = ls at hl ⊢
  have hl : lv_has ls 3 [(0, .ref h0)] := hl
  have kf111 := hts (.fieldLink RX6 111 "PebbleInShoeModel" "at" "I") (by decide +kernel)
  have hiX6 := (by decide +kernel : ∀ w ∈ wsX60, w ∈ wsX6_next)
  have kf80 := hts (.fieldLink RX6 80 "PebbleInShoeModel" "taped" "I") (by decide +kernel)
  have kf22 := hts (.fieldLink RX6 22 "PebbleInShoeModel" "tape" "[I") (by decide +kernel)
  have kf114 := hts (.fieldLink RX6 114 "PebbleInShoeModel" "begun" "I") (by decide +kernel)
  have kf117 := hts (.fieldLink RX6 117 "PebbleInShoeModel" "token" "I") (by decide +kernel)
  have kf120 := hts (.fieldLink RX6 120 "PebbleInShoeModel" "value" "I") (by decide +kernel)
  refine lv_aload_n hx hb dX6_next_0 rfl (lv_at hl 0 rfl) ?_
  refine va_get (D := G.1) (ci := 6) (v := .int 5) (C := RX6) (T := TX6) (N := 42) hx hb hts hiX6 hown hK hP 0 rfl rfl 19 (by decide) kf111 (fun _ h9 => h9) rfl dX6_next_1 ?_
  refine lv_aload_n hx hb dX6_next_4 rfl (lv_at hl 0 rfl) ?_
  refine va_get (D := G.1) (ci := 6) (v := .int 40) (C := RX6) (T := TX6) (N := 42) hx hb hts hiX6 hown hK hP 0 rfl rfl 7 (by decide) kf80 (fun _ h9 => h9) rfl dX6_next_5 ?_
  refine lv_icmp_ge (tgt := 52) hx hb dX6_next_8 (by decide) (fun c_1 => ?_) (fun c_1 => ?_)
  · exact absurd c_1 (by decide)
  refine lv_aload_n hx hb dX6_next_11 rfl (lv_at hl 0 rfl) ?_
  refine va_get (D := G.1) (ci := 6) (v := .ref tp) (C := RX6) (T := TX6) (N := 42) hx hb hts hiX6 hown hK hP 0 rfl rfl 6 (by decide) kf22 (fun _ h9 => h9) rfl dX6_next_12 ?_
  refine lv_aload_n hx hb dX6_next_15 rfl (lv_at hl 0 rfl) ?_
  refine va_get (D := G.1) (ci := 6) (v := .int 5) (C := RX6) (T := TX6) (N := 42) hx hb hts hiX6 hown hK hP 0 rfl rfl 19 (by decide) kf111 (fun _ h9 => h9) rfl dX6_next_16 ?_
  refine va_iald (D := G.1) hx hb hK hP 1 0 rfl rfl (i := 5) (gIn (by decide)) dX6_next_19 ?_
  refine lv_topi (fun v_2 ev_2 => ?_)
  have ev_2 : v_2 = 32 := ev_2.trans (by decide)
  subst ev_2
  refine lv_bipush (v := 32) hx hb dX6_next_20 (by decide) ?_
  refine lv_icmp_eq (tgt := 39) hx hb dX6_next_22 (by decide) (fun c_3 => ?_) (fun c_3 => ?_)
  rotate_left
  · exact absurd (by decide) c_3
  refine lv_aload_n hx hb dX6_next_39 rfl (lv_at hl 0 rfl) ?_
  refine lv_dup hx hb dX6_next_40 rfl ?_
  refine va_get (D := G.1) (ci := 6) (v := .int 5) (C := RX6) (T := TX6) (N := 42) hx hb hts hiX6 hown hK hP 0 rfl rfl 19 (by decide) kf111 (fun _ h9 => h9) rfl dX6_next_41 ?_
  refine lv_iconst (v := 1) hx hb dX6_next_44 (by decide) ?_
  refine lv_iadd hx hb dX6_next_45 ?_
  refine lv_topi (fun v_4 ev_4 => ?_)
  have ev_4 : v_4 = 6 := ev_4.trans (by decide)
  subst ev_4
  refine va_put (D := G.1) (ci := 6) (v := .int 6) (ty := .int) (C := RX6) (T := TX6) (N := 42) hx hb hts hiX6 tyX6 tyX6_ok nmX6 hown hK hP hD hS 0 rfl rfl 19 (by decide) kf111 (fun _ h9 => h9) rfl (by decide +kernel) rfl rfl (Nat.le_of_ble_eq_true rfl) dX6_next_46 (fun H locs hP hD hS => ?_)
  have hP : va_P G.1 vwCl [(h0, .inr (6, [.int 0, .ref kd, .ref mo, .ref st, .int 0, .ref ro, .ref tp, .int 40, .ref cd, .ref sr, .int 0, .int 0, .int 0, .ref ir, .ref ih, .ref ss, .ref sq, .ref ce, .ref lw, .int 6, .int 0, .int 3, .int 0, .ref wo, .ref he, .int 0, .int 0, .int 0, .ref sk, .ref na, .ref kp, .int 0, .int 0, .int 0, .int 0, .ref gb, .ref go, .ref fa, .ref ga, .int 0, .int 0, .ref vo])), (tp, .inl (G.2.1, 160, .inl (gPf tB 40))), (wo, .inl (G.2.1, 96, .inl (gPf tW 96)))] H := hP
  have hD : va_D A [(h0, .inr (6, [.int 0, .ref kd, .ref mo, .ref st, .int 0, .ref ro, .ref tp, .int 40, .ref cd, .ref sr, .int 0, .int 0, .int 0, .ref ir, .ref ih, .ref ss, .ref sq, .ref ce, .ref lw, .int 6, .int 0, .int 3, .int 0, .ref wo, .ref he, .int 0, .int 0, .int 0, .ref sk, .ref na, .ref kp, .int 0, .int 0, .int 0, .int 0, .ref gb, .ref go, .ref fa, .ref ga, .int 0, .int 0, .ref vo])), (tp, .inl (G.2.1, 160, .inl (gPf tB 40))), (wo, .inl (G.2.1, 96, .inl (gPf tW 96)))] := hD
  refine lv_goto (tgt := 0) hx hb dX6_next_49 (by decide) ?_
  refine lv_aload_n hx hb dX6_next_0 rfl (lv_at hl 0 rfl) ?_
  refine va_get (D := G.1) (ci := 6) (v := .int 6) (C := RX6) (T := TX6) (N := 42) hx hb hts hiX6 hown hK hP 0 rfl rfl 19 (by decide) kf111 (fun _ h9 => h9) rfl dX6_next_1 ?_
  refine lv_aload_n hx hb dX6_next_4 rfl (lv_at hl 0 rfl) ?_
  refine va_get (D := G.1) (ci := 6) (v := .int 40) (C := RX6) (T := TX6) (N := 42) hx hb hts hiX6 hown hK hP 0 rfl rfl 7 (by decide) kf80 (fun _ h9 => h9) rfl dX6_next_5 ?_
  refine lv_icmp_ge (tgt := 52) hx hb dX6_next_8 (by decide) (fun c_5 => ?_) (fun c_5 => ?_)
  · exact absurd c_5 (by decide)
  refine lv_aload_n hx hb dX6_next_11 rfl (lv_at hl 0 rfl) ?_
  refine va_get (D := G.1) (ci := 6) (v := .ref tp) (C := RX6) (T := TX6) (N := 42) hx hb hts hiX6 hown hK hP 0 rfl rfl 6 (by decide) kf22 (fun _ h9 => h9) rfl dX6_next_12 ?_
  refine lv_aload_n hx hb dX6_next_15 rfl (lv_at hl 0 rfl) ?_
  refine va_get (D := G.1) (ci := 6) (v := .int 6) (C := RX6) (T := TX6) (N := 42) hx hb hts hiX6 hown hK hP 0 rfl rfl 19 (by decide) kf111 (fun _ h9 => h9) rfl dX6_next_16 ?_
  refine va_iald (D := G.1) hx hb hK hP 1 0 rfl rfl (i := 6) (gIn (by decide)) dX6_next_19 ?_
  refine lv_topi (fun v_6 ev_6 => ?_)
  have ev_6 : v_6 = 115 := ev_6.trans (by decide)
  subst ev_6
  refine lv_bipush (v := 32) hx hb dX6_next_20 (by decide) ?_
  refine lv_icmp_eq (tgt := 39) hx hb dX6_next_22 (by decide) (fun c_7 => ?_) (fun c_7 => ?_)
  · exact absurd c_7 (by decide)
  refine lv_aload_n hx hb dX6_next_25 rfl (lv_at hl 0 rfl) ?_
  refine va_get (D := G.1) (ci := 6) (v := .ref tp) (C := RX6) (T := TX6) (N := 42) hx hb hts hiX6 hown hK hP 0 rfl rfl 6 (by decide) kf22 (fun _ h9 => h9) rfl dX6_next_26 ?_
  refine lv_aload_n hx hb dX6_next_29 rfl (lv_at hl 0 rfl) ?_
  refine va_get (D := G.1) (ci := 6) (v := .int 6) (C := RX6) (T := TX6) (N := 42) hx hb hts hiX6 hown hK hP 0 rfl rfl 19 (by decide) kf111 (fun _ h9 => h9) rfl dX6_next_30 ?_
  refine va_iald (D := G.1) hx hb hK hP 1 0 rfl rfl (i := 6) (gIn (by decide)) dX6_next_33 ?_
  refine lv_topi (fun v_8 ev_8 => ?_)
  have ev_8 : v_8 = 115 := ev_8.trans (by decide)
  subst ev_8
  refine lv_bipush (v := 10) hx hb dX6_next_34 (by decide) ?_
  refine lv_icmp_ne (tgt := 52) hx hb dX6_next_36 (by decide) (fun c_9 => ?_) (fun c_9 => ?_)
  rotate_left
  · exact absurd c_9 (by decide)
  refine lv_aload_n hx hb dX6_next_52 rfl (lv_at hl 0 rfl) ?_
  refine lv_aload_n hx hb dX6_next_53 rfl (lv_at hl 0 rfl) ?_
  refine va_get (D := G.1) (ci := 6) (v := .int 6) (C := RX6) (T := TX6) (N := 42) hx hb hts hiX6 hown hK hP 0 rfl rfl 19 (by decide) kf111 (fun _ h9 => h9) rfl dX6_next_54 ?_
  refine va_put (D := G.1) (ci := 6) (v := .int 6) (ty := .int) (C := RX6) (T := TX6) (N := 42) hx hb hts hiX6 tyX6 tyX6_ok nmX6 hown hK hP hD hS 0 rfl rfl 20 (by decide) kf114 (fun _ h9 => h9) rfl (by decide +kernel) rfl rfl (Nat.le_of_ble_eq_true rfl) dX6_next_57 (fun H locs hP hD hS => ?_)
  have hP : va_P G.1 vwCl [(h0, .inr (6, [.int 0, .ref kd, .ref mo, .ref st, .int 0, .ref ro, .ref tp, .int 40, .ref cd, .ref sr, .int 0, .int 0, .int 0, .ref ir, .ref ih, .ref ss, .ref sq, .ref ce, .ref lw, .int 6, .int 6, .int 3, .int 0, .ref wo, .ref he, .int 0, .int 0, .int 0, .ref sk, .ref na, .ref kp, .int 0, .int 0, .int 0, .int 0, .ref gb, .ref go, .ref fa, .ref ga, .int 0, .int 0, .ref vo])), (tp, .inl (G.2.1, 160, .inl (gPf tB 40))), (wo, .inl (G.2.1, 96, .inl (gPf tW 96)))] H := hP
  have hD : va_D A [(h0, .inr (6, [.int 0, .ref kd, .ref mo, .ref st, .int 0, .ref ro, .ref tp, .int 40, .ref cd, .ref sr, .int 0, .int 0, .int 0, .ref ir, .ref ih, .ref ss, .ref sq, .ref ce, .ref lw, .int 6, .int 6, .int 3, .int 0, .ref wo, .ref he, .int 0, .int 0, .int 0, .ref sk, .ref na, .ref kp, .int 0, .int 0, .int 0, .int 0, .ref gb, .ref go, .ref fa, .ref ga, .int 0, .int 0, .ref vo])), (tp, .inl (G.2.1, 160, .inl (gPf tB 40))), (wo, .inl (G.2.1, 96, .inl (gPf tW 96)))] := hD
  refine lv_aload_n hx hb dX6_next_60 rfl (lv_at hl 0 rfl) ?_
  refine lv_iconst (v := 0) hx hb dX6_next_61 (by decide) ?_
  refine va_put (D := G.1) (ci := 6) (v := .int 0) (ty := .int) (C := RX6) (T := TX6) (N := 42) hx hb hts hiX6 tyX6 tyX6_ok nmX6 hown hK hP hD hS 0 rfl rfl 21 (by decide) kf117 (fun _ h9 => h9) rfl (by decide +kernel) rfl rfl (Nat.le_of_ble_eq_true rfl) dX6_next_62 (fun H locs hP hD hS => ?_)
  have hP : va_P G.1 vwCl [(h0, .inr (6, [.int 0, .ref kd, .ref mo, .ref st, .int 0, .ref ro, .ref tp, .int 40, .ref cd, .ref sr, .int 0, .int 0, .int 0, .ref ir, .ref ih, .ref ss, .ref sq, .ref ce, .ref lw, .int 6, .int 6, .int 0, .int 0, .ref wo, .ref he, .int 0, .int 0, .int 0, .ref sk, .ref na, .ref kp, .int 0, .int 0, .int 0, .int 0, .ref gb, .ref go, .ref fa, .ref ga, .int 0, .int 0, .ref vo])), (tp, .inl (G.2.1, 160, .inl (gPf tB 40))), (wo, .inl (G.2.1, 96, .inl (gPf tW 96)))] H := hP
  have hD : va_D A [(h0, .inr (6, [.int 0, .ref kd, .ref mo, .ref st, .int 0, .ref ro, .ref tp, .int 40, .ref cd, .ref sr, .int 0, .int 0, .int 0, .ref ir, .ref ih, .ref ss, .ref sq, .ref ce, .ref lw, .int 6, .int 6, .int 0, .int 0, .ref wo, .ref he, .int 0, .int 0, .int 0, .ref sk, .ref na, .ref kp, .int 0, .int 0, .int 0, .int 0, .ref gb, .ref go, .ref fa, .ref ga, .int 0, .int 0, .ref vo])), (tp, .inl (G.2.1, 160, .inl (gPf tB 40))), (wo, .inl (G.2.1, 96, .inl (gPf tW 96)))] := hD
  refine lv_aload_n hx hb dX6_next_65 rfl (lv_at hl 0 rfl) ?_
  refine lv_iconst (v := 0) hx hb dX6_next_66 (by decide) ?_
  refine va_put (D := G.1) (ci := 6) (v := .int 0) (ty := .int) (C := RX6) (T := TX6) (N := 42) hx hb hts hiX6 tyX6 tyX6_ok nmX6 hown hK hP hD hS 0 rfl rfl 22 (by decide) kf120 (fun _ h9 => h9) rfl (by decide +kernel) rfl rfl (Nat.le_of_ble_eq_true rfl) dX6_next_67 (fun H locs hP hD hS => ?_)
  have hP : va_P G.1 vwCl [(h0, .inr (6, [.int 0, .ref kd, .ref mo, .ref st, .int 0, .ref ro, .ref tp, .int 40, .ref cd, .ref sr, .int 0, .int 0, .int 0, .ref ir, .ref ih, .ref ss, .ref sq, .ref ce, .ref lw, .int 6, .int 6, .int 0, .int 0, .ref wo, .ref he, .int 0, .int 0, .int 0, .ref sk, .ref na, .ref kp, .int 0, .int 0, .int 0, .int 0, .ref gb, .ref go, .ref fa, .ref ga, .int 0, .int 0, .ref vo])), (tp, .inl (G.2.1, 160, .inl (gPf tB 40))), (wo, .inl (G.2.1, 96, .inl (gPf tW 96)))] H := hP
  have hD : va_D A [(h0, .inr (6, [.int 0, .ref kd, .ref mo, .ref st, .int 0, .ref ro, .ref tp, .int 40, .ref cd, .ref sr, .int 0, .int 0, .int 0, .ref ir, .ref ih, .ref ss, .ref sq, .ref ce, .ref lw, .int 6, .int 6, .int 0, .int 0, .ref wo, .ref he, .int 0, .int 0, .int 0, .ref sk, .ref na, .ref kp, .int 0, .int 0, .int 0, .int 0, .ref gb, .ref go, .ref fa, .ref ga, .int 0, .int 0, .ref vo])), (tp, .inl (G.2.1, 160, .inl (gPf tB 40))), (wo, .inl (G.2.1, 96, .inl (gPf tW 96)))] := hD
  refine lv_aload_n hx hb dX6_next_70 rfl (lv_at hl 0 rfl) ?_
  refine va_get (D := G.1) (ci := 6) (v := .int 6) (C := RX6) (T := TX6) (N := 42) hx hb hts hiX6 hown hK hP 0 rfl rfl 19 (by decide) kf111 (fun _ h9 => h9) rfl dX6_next_71 ?_
  refine lv_aload_n hx hb dX6_next_74 rfl (lv_at hl 0 rfl) ?_
  refine va_get (D := G.1) (ci := 6) (v := .int 40) (C := RX6) (T := TX6) (N := 42) hx hb hts hiX6 hown hK hP 0 rfl rfl 7 (by decide) kf80 (fun _ h9 => h9) rfl dX6_next_75 ?_
  refine lv_icmp_ne (tgt := 82) hx hb dX6_next_78 (by decide) (fun c_10 => ?_) (fun c_10 => ?_)
  rotate_left
  · exact absurd c_10 (by decide)
  refine lv_aload_n hx hb dX6_next_82 rfl (lv_at hl 0 rfl) ?_
  refine va_get (D := G.1) (ci := 6) (v := .ref tp) (C := RX6) (T := TX6) (N := 42) hx hb hts hiX6 hown hK hP 0 rfl rfl 6 (by decide) kf22 (fun _ h9 => h9) rfl dX6_next_83 ?_
  refine lv_aload_n hx hb dX6_next_86 rfl (lv_at hl 0 rfl) ?_
  refine va_get (D := G.1) (ci := 6) (v := .int 6) (C := RX6) (T := TX6) (N := 42) hx hb hts hiX6 hown hK hP 0 rfl rfl 19 (by decide) kf111 (fun _ h9 => h9) rfl dX6_next_87 ?_
  refine va_iald (D := G.1) hx hb hK hP 1 0 rfl rfl (i := 6) (gIn (by decide)) dX6_next_90 ?_
  refine lv_topi (fun v_11 ev_11 => ?_)
  have ev_11 : v_11 = 115 := ev_11.trans (by decide)
  subst ev_11
  refine lv_istore_n (lv' := [(1, .int 115), (0, .ref h0)]) hx hb dX6_next_91 rfl hl (by decide) rfl (fun ls hl => ?_)
  refine lv_iload_n hx hb dX6_next_92 rfl (lv_at hl 0 rfl) ?_
  refine lv_bipush (v := 97) hx hb dX6_next_93 (by decide) ?_
  refine lv_bipush (v := 122) hx hb dX6_next_95 (by decide) ?_
  have hPc : va_P G.1 vwCl [] H := hP.sub [] rfl
  have hDc : va_D A [] := hD.sub [] (by decide) rfl
  have hFc := va_free (wc := []) hD hS hA [] rfl
  refine va_calli (va_runS (As := [.int 115, .int 97, .int 122]) (rest := []) ⟨hx, hb, hml, hown, hts⟩ (c_X6_in_z5 l G H.size) (va_cwS 3 hts gX6_next_X6_in rfl rfl rfl (by decide +kernel) ⟨Nat.le_of_ble_eq_true rfl, Nat.le_of_ble_eq_true rfl⟩) ⟨gPre_blind, fun U hU hW => gPre_of hU hW hK hPc hDc⟩ rfl rfl hl.1 rfl (lv_room (Nat.le_of_ble_eq_true rfl)) dX6_next_97 ⟨Nat.le_of_ble_eq_true rfl, Nat.le_of_ble_eq_true rfl⟩) hS (fun q _ h => hFc q h) hFc (fun r_12 u t H locs ht hvm w_13 hB hz1 hk1 hS => ?_)
  obtain ⟨hP1, hK1, hD1⟩ := hB
  rw [ht] at hP1
  have hP1 : va_P G.1 vwCl [] H := hP1
  have hD1 : va_D (va_A [] _) [] := hD1
  have w_13 : r_12 = 1 := w_13
  obtain ⟨hP, hD⟩ := va_join (wr := [(h0, .inr (6, [.int 0, .ref kd, .ref mo, .ref st, .int 0, .ref ro, .ref tp, .int 40, .ref cd, .ref sr, .int 0, .int 0, .int 0, .ref ir, .ref ih, .ref ss, .ref sq, .ref ce, .ref lw, .int 6, .int 6, .int 0, .int 0, .ref wo, .ref he, .int 0, .int 0, .int 0, .ref sk, .ref na, .ref kp, .int 0, .int 0, .int 0, .int 0, .ref gb, .ref go, .ref fa, .ref ga, .int 0, .int 0, .ref vo])), (tp, .inl (G.2.1, 160, .inl (gPf tB 40))), (wo, .inl (G.2.1, 96, .inl (gPf tW 96)))]) (w1 := []) hP hD [] [0, 1, 2] rfl rfl (by decide) (by decide) hk1 hFc hP1 hD1
  have hP : va_P G.1 vwCl [(h0, .inr (6, [.int 0, .ref kd, .ref mo, .ref st, .int 0, .ref ro, .ref tp, .int 40, .ref cd, .ref sr, .int 0, .int 0, .int 0, .ref ir, .ref ih, .ref ss, .ref sq, .ref ce, .ref lw, .int 6, .int 6, .int 0, .int 0, .ref wo, .ref he, .int 0, .int 0, .int 0, .ref sk, .ref na, .ref kp, .int 0, .int 0, .int 0, .int 0, .ref gb, .ref go, .ref fa, .ref ga, .int 0, .int 0, .ref vo])), (tp, .inl (G.2.1, 160, .inl (gPf tB 40))), (wo, .inl (G.2.1, 96, .inl (gPf tW 96)))] H := hP
  have hD : va_D A [(h0, .inr (6, [.int 0, .ref kd, .ref mo, .ref st, .int 0, .ref ro, .ref tp, .int 40, .ref cd, .ref sr, .int 0, .int 0, .int 0, .ref ir, .ref ih, .ref ss, .ref sq, .ref ce, .ref lw, .int 6, .int 6, .int 0, .int 0, .ref wo, .ref he, .int 0, .int 0, .int 0, .ref sk, .ref na, .ref kp, .int 0, .int 0, .int 0, .int 0, .ref gb, .ref go, .ref fa, .ref ga, .int 0, .int 0, .ref vo])), (tp, .inl (G.2.1, 160, .inl (gPf tB 40))), (wo, .inl (G.2.1, 96, .inl (gPf tW 96)))] := hD
  have w_13 : r_12 = 1 := w_13
  subst w_13
  refine lv_if_eq (tgt := 217) hx hb dX6_next_100 (by decide) (fun c_14 => ?_) (fun c_14 => ?_)
  · exact absurd c_14 (by decide)
  refine lv_aload_n hx hb dX6_next_103 rfl (lv_at hl 1 rfl) ?_
  refine va_get (D := G.1) (ci := 6) (v := .int 6) (C := RX6) (T := TX6) (N := 42) hx hb hts hiX6 hown hK hP 0 rfl rfl 19 (by decide) kf111 (fun _ h9 => h9) rfl dX6_next_104 ?_
  refine lv_aload_n hx hb dX6_next_107 rfl (lv_at hl 1 rfl) ?_
  refine va_get (D := G.1) (ci := 6) (v := .int 40) (C := RX6) (T := TX6) (N := 42) hx hb hts hiX6 hown hK hP 0 rfl rfl 7 (by decide) kf80 (fun _ h9 => h9) rfl dX6_next_108 ?_
  refine lv_icmp_ge (tgt := 146) hx hb dX6_next_111 (by decide) (fun c_15 => ?_) (fun c_15 => ?_)
  · exact absurd c_15 (by decide)
  refine lv_aload_n hx hb dX6_next_114 rfl (lv_at hl 1 rfl) ?_
  refine va_get (D := G.1) (ci := 6) (v := .ref tp) (C := RX6) (T := TX6) (N := 42) hx hb hts hiX6 hown hK hP 0 rfl rfl 6 (by decide) kf22 (fun _ h9 => h9) rfl dX6_next_115 ?_
  refine lv_aload_n hx hb dX6_next_118 rfl (lv_at hl 1 rfl) ?_
  refine va_get (D := G.1) (ci := 6) (v := .int 6) (C := RX6) (T := TX6) (N := 42) hx hb hts hiX6 hown hK hP 0 rfl rfl 19 (by decide) kf111 (fun _ h9 => h9) rfl dX6_next_119 ?_
  refine va_iald (D := G.1) hx hb hK hP 1 0 rfl rfl (i := 6) (gIn (by decide)) dX6_next_122 ?_
  refine lv_topi (fun v_16 ev_16 => ?_)
  have ev_16 : v_16 = 115 := ev_16.trans (by decide)
  subst ev_16
  refine lv_bipush (v := 97) hx hb dX6_next_123 (by decide) ?_
  refine lv_bipush (v := 122) hx hb dX6_next_125 (by decide) ?_
  have hPc : va_P G.1 vwCl [] H := hP.sub [] rfl
  have hDc : va_D A [] := hD.sub [] (by decide) rfl
  have hFc := va_free (wc := []) hD hS hA [] rfl
  refine va_calli (va_runS (As := [.int 115, .int 97, .int 122]) (rest := []) ⟨hx, hb, hml, hown, hts⟩ (c_X6_in_z5 l G H.size) (va_cwS 3 hts gX6_next_X6_in rfl rfl rfl (by decide +kernel) ⟨Nat.le_of_ble_eq_true rfl, Nat.le_of_ble_eq_true rfl⟩) ⟨gPre_blind, fun U hU hW => gPre_of hU hW hK hPc hDc⟩ rfl rfl hl.1 rfl (lv_room (Nat.le_of_ble_eq_true rfl)) dX6_next_127 ⟨Nat.le_of_ble_eq_true rfl, Nat.le_of_ble_eq_true rfl⟩) hS (fun q _ h => hFc q h) hFc (fun r_17 u t H locs ht hvm w_18 hB hz1 hk1 hS => ?_)
  obtain ⟨hP1, hK1, hD1⟩ := hB
  rw [ht] at hP1
  have hP1 : va_P G.1 vwCl [] H := hP1
  have hD1 : va_D (va_A [] _) [] := hD1
  have w_18 : r_17 = 1 := w_18
  obtain ⟨hP, hD⟩ := va_join (wr := [(h0, .inr (6, [.int 0, .ref kd, .ref mo, .ref st, .int 0, .ref ro, .ref tp, .int 40, .ref cd, .ref sr, .int 0, .int 0, .int 0, .ref ir, .ref ih, .ref ss, .ref sq, .ref ce, .ref lw, .int 6, .int 6, .int 0, .int 0, .ref wo, .ref he, .int 0, .int 0, .int 0, .ref sk, .ref na, .ref kp, .int 0, .int 0, .int 0, .int 0, .ref gb, .ref go, .ref fa, .ref ga, .int 0, .int 0, .ref vo])), (tp, .inl (G.2.1, 160, .inl (gPf tB 40))), (wo, .inl (G.2.1, 96, .inl (gPf tW 96)))]) (w1 := []) hP hD [] [0, 1, 2] rfl rfl (by decide) (by decide) hk1 hFc hP1 hD1
  have hP : va_P G.1 vwCl [(h0, .inr (6, [.int 0, .ref kd, .ref mo, .ref st, .int 0, .ref ro, .ref tp, .int 40, .ref cd, .ref sr, .int 0, .int 0, .int 0, .ref ir, .ref ih, .ref ss, .ref sq, .ref ce, .ref lw, .int 6, .int 6, .int 0, .int 0, .ref wo, .ref he, .int 0, .int 0, .int 0, .ref sk, .ref na, .ref kp, .int 0, .int 0, .int 0, .int 0, .ref gb, .ref go, .ref fa, .ref ga, .int 0, .int 0, .ref vo])), (tp, .inl (G.2.1, 160, .inl (gPf tB 40))), (wo, .inl (G.2.1, 96, .inl (gPf tW 96)))] H := hP
  have hD : va_D A [(h0, .inr (6, [.int 0, .ref kd, .ref mo, .ref st, .int 0, .ref ro, .ref tp, .int 40, .ref cd, .ref sr, .int 0, .int 0, .int 0, .ref ir, .ref ih, .ref ss, .ref sq, .ref ce, .ref lw, .int 6, .int 6, .int 0, .int 0, .ref wo, .ref he, .int 0, .int 0, .int 0, .ref sk, .ref na, .ref kp, .int 0, .int 0, .int 0, .int 0, .ref gb, .ref go, .ref fa, .ref ga, .int 0, .int 0, .ref vo])), (tp, .inl (G.2.1, 160, .inl (gPf tB 40))), (wo, .inl (G.2.1, 96, .inl (gPf tW 96)))] := hD
  have w_18 : r_17 = 1 := w_18
  subst w_18
  refine lv_if_eq (tgt := 146) hx hb dX6_next_130 (by decide) (fun c_19 => ?_) (fun c_19 => ?_)
  · exact absurd c_19 (by decide)
  refine lv_aload_n hx hb dX6_next_133 rfl (lv_at hl 1 rfl) ?_
  refine lv_dup hx hb dX6_next_134 rfl ?_
  refine va_get (D := G.1) (ci := 6) (v := .int 6) (C := RX6) (T := TX6) (N := 42) hx hb hts hiX6 hown hK hP 0 rfl rfl 19 (by decide) kf111 (fun _ h9 => h9) rfl dX6_next_135 ?_
  refine lv_iconst (v := 1) hx hb dX6_next_138 (by decide) ?_
  refine lv_iadd hx hb dX6_next_139 ?_
  refine lv_topi (fun v_20 ev_20 => ?_)
  have ev_20 : v_20 = 7 := ev_20.trans (by decide)
  subst ev_20
  refine va_put (D := G.1) (ci := 6) (v := .int 7) (ty := .int) (C := RX6) (T := TX6) (N := 42) hx hb hts hiX6 tyX6 tyX6_ok nmX6 hown hK hP hD hS 0 rfl rfl 19 (by decide) kf111 (fun _ h9 => h9) rfl (by decide +kernel) rfl rfl (Nat.le_of_ble_eq_true rfl) dX6_next_140 (fun H locs hP hD hS => ?_)
  have hP : va_P G.1 vwCl [(h0, .inr (6, [.int 0, .ref kd, .ref mo, .ref st, .int 0, .ref ro, .ref tp, .int 40, .ref cd, .ref sr, .int 0, .int 0, .int 0, .ref ir, .ref ih, .ref ss, .ref sq, .ref ce, .ref lw, .int 7, .int 6, .int 0, .int 0, .ref wo, .ref he, .int 0, .int 0, .int 0, .ref sk, .ref na, .ref kp, .int 0, .int 0, .int 0, .int 0, .ref gb, .ref go, .ref fa, .ref ga, .int 0, .int 0, .ref vo])), (tp, .inl (G.2.1, 160, .inl (gPf tB 40))), (wo, .inl (G.2.1, 96, .inl (gPf tW 96)))] H := hP
  have hD : va_D A [(h0, .inr (6, [.int 0, .ref kd, .ref mo, .ref st, .int 0, .ref ro, .ref tp, .int 40, .ref cd, .ref sr, .int 0, .int 0, .int 0, .ref ir, .ref ih, .ref ss, .ref sq, .ref ce, .ref lw, .int 7, .int 6, .int 0, .int 0, .ref wo, .ref he, .int 0, .int 0, .int 0, .ref sk, .ref na, .ref kp, .int 0, .int 0, .int 0, .int 0, .ref gb, .ref go, .ref fa, .ref ga, .int 0, .int 0, .ref vo])), (tp, .inl (G.2.1, 160, .inl (gPf tB 40))), (wo, .inl (G.2.1, 96, .inl (gPf tW 96)))] := hD
  refine lv_goto (tgt := 103) hx hb dX6_next_143 (by decide) ?_
  refine lv_aload_n hx hb dX6_next_103 rfl (lv_at hl 1 rfl) ?_
  refine va_get (D := G.1) (ci := 6) (v := .int 7) (C := RX6) (T := TX6) (N := 42) hx hb hts hiX6 hown hK hP 0 rfl rfl 19 (by decide) kf111 (fun _ h9 => h9) rfl dX6_next_104 ?_
  refine lv_aload_n hx hb dX6_next_107 rfl (lv_at hl 1 rfl) ?_
  refine va_get (D := G.1) (ci := 6) (v := .int 40) (C := RX6) (T := TX6) (N := 42) hx hb hts hiX6 hown hK hP 0 rfl rfl 7 (by decide) kf80 (fun _ h9 => h9) rfl dX6_next_108 ?_
  refine lv_icmp_ge (tgt := 146) hx hb dX6_next_111 (by decide) (fun c_21 => ?_) (fun c_21 => ?_)
  · exact absurd c_21 (by decide)
  refine lv_aload_n hx hb dX6_next_114 rfl (lv_at hl 1 rfl) ?_
  refine va_get (D := G.1) (ci := 6) (v := .ref tp) (C := RX6) (T := TX6) (N := 42) hx hb hts hiX6 hown hK hP 0 rfl rfl 6 (by decide) kf22 (fun _ h9 => h9) rfl dX6_next_115 ?_
  refine lv_aload_n hx hb dX6_next_118 rfl (lv_at hl 1 rfl) ?_
  refine va_get (D := G.1) (ci := 6) (v := .int 7) (C := RX6) (T := TX6) (N := 42) hx hb hts hiX6 hown hK hP 0 rfl rfl 19 (by decide) kf111 (fun _ h9 => h9) rfl dX6_next_119 ?_
  refine va_iald (D := G.1) hx hb hK hP 1 0 rfl rfl (i := 7) (gIn (by decide)) dX6_next_122 ?_
  refine lv_topi (fun v_22 ev_22 => ?_)
  have ev_22 : v_22 = 105 := ev_22.trans (by decide)
  subst ev_22
  refine lv_bipush (v := 97) hx hb dX6_next_123 (by decide) ?_
  refine lv_bipush (v := 122) hx hb dX6_next_125 (by decide) ?_
  have hPc : va_P G.1 vwCl [] H := hP.sub [] rfl
  have hDc : va_D A [] := hD.sub [] (by decide) rfl
  have hFc := va_free (wc := []) hD hS hA [] rfl
  refine va_calli (va_runS (As := [.int 105, .int 97, .int 122]) (rest := []) ⟨hx, hb, hml, hown, hts⟩ (c_X6_in_z10 l G H.size) (va_cwS 3 hts gX6_next_X6_in rfl rfl rfl (by decide +kernel) ⟨Nat.le_of_ble_eq_true rfl, Nat.le_of_ble_eq_true rfl⟩) ⟨gPre_blind, fun U hU hW => gPre_of hU hW hK hPc hDc⟩ rfl rfl hl.1 rfl (lv_room (Nat.le_of_ble_eq_true rfl)) dX6_next_127 ⟨Nat.le_of_ble_eq_true rfl, Nat.le_of_ble_eq_true rfl⟩) hS (fun q _ h => hFc q h) hFc (fun r_23 u t H locs ht hvm w_24 hB hz1 hk1 hS => ?_)
  obtain ⟨hP1, hK1, hD1⟩ := hB
  rw [ht] at hP1
  have hP1 : va_P G.1 vwCl [] H := hP1
  have hD1 : va_D (va_A [] _) [] := hD1
  have w_24 : r_23 = 1 := w_24
  obtain ⟨hP, hD⟩ := va_join (wr := [(h0, .inr (6, [.int 0, .ref kd, .ref mo, .ref st, .int 0, .ref ro, .ref tp, .int 40, .ref cd, .ref sr, .int 0, .int 0, .int 0, .ref ir, .ref ih, .ref ss, .ref sq, .ref ce, .ref lw, .int 7, .int 6, .int 0, .int 0, .ref wo, .ref he, .int 0, .int 0, .int 0, .ref sk, .ref na, .ref kp, .int 0, .int 0, .int 0, .int 0, .ref gb, .ref go, .ref fa, .ref ga, .int 0, .int 0, .ref vo])), (tp, .inl (G.2.1, 160, .inl (gPf tB 40))), (wo, .inl (G.2.1, 96, .inl (gPf tW 96)))]) (w1 := []) hP hD [] [0, 1, 2] rfl rfl (by decide) (by decide) hk1 hFc hP1 hD1
  have hP : va_P G.1 vwCl [(h0, .inr (6, [.int 0, .ref kd, .ref mo, .ref st, .int 0, .ref ro, .ref tp, .int 40, .ref cd, .ref sr, .int 0, .int 0, .int 0, .ref ir, .ref ih, .ref ss, .ref sq, .ref ce, .ref lw, .int 7, .int 6, .int 0, .int 0, .ref wo, .ref he, .int 0, .int 0, .int 0, .ref sk, .ref na, .ref kp, .int 0, .int 0, .int 0, .int 0, .ref gb, .ref go, .ref fa, .ref ga, .int 0, .int 0, .ref vo])), (tp, .inl (G.2.1, 160, .inl (gPf tB 40))), (wo, .inl (G.2.1, 96, .inl (gPf tW 96)))] H := hP
  have hD : va_D A [(h0, .inr (6, [.int 0, .ref kd, .ref mo, .ref st, .int 0, .ref ro, .ref tp, .int 40, .ref cd, .ref sr, .int 0, .int 0, .int 0, .ref ir, .ref ih, .ref ss, .ref sq, .ref ce, .ref lw, .int 7, .int 6, .int 0, .int 0, .ref wo, .ref he, .int 0, .int 0, .int 0, .ref sk, .ref na, .ref kp, .int 0, .int 0, .int 0, .int 0, .ref gb, .ref go, .ref fa, .ref ga, .int 0, .int 0, .ref vo])), (tp, .inl (G.2.1, 160, .inl (gPf tB 40))), (wo, .inl (G.2.1, 96, .inl (gPf tW 96)))] := hD
  have w_24 : r_23 = 1 := w_24
  subst w_24
  refine lv_if_eq (tgt := 146) hx hb dX6_next_130 (by decide) (fun c_25 => ?_) (fun c_25 => ?_)
  · exact absurd c_25 (by decide)
  refine lv_aload_n hx hb dX6_next_133 rfl (lv_at hl 1 rfl) ?_
  refine lv_dup hx hb dX6_next_134 rfl ?_
  refine va_get (D := G.1) (ci := 6) (v := .int 7) (C := RX6) (T := TX6) (N := 42) hx hb hts hiX6 hown hK hP 0 rfl rfl 19 (by decide) kf111 (fun _ h9 => h9) rfl dX6_next_135 ?_
  refine lv_iconst (v := 1) hx hb dX6_next_138 (by decide) ?_
  refine lv_iadd hx hb dX6_next_139 ?_
  refine lv_topi (fun v_26 ev_26 => ?_)
  have ev_26 : v_26 = 8 := ev_26.trans (by decide)
  subst ev_26
  refine va_put (D := G.1) (ci := 6) (v := .int 8) (ty := .int) (C := RX6) (T := TX6) (N := 42) hx hb hts hiX6 tyX6 tyX6_ok nmX6 hown hK hP hD hS 0 rfl rfl 19 (by decide) kf111 (fun _ h9 => h9) rfl (by decide +kernel) rfl rfl (Nat.le_of_ble_eq_true rfl) dX6_next_140 (fun H locs hP hD hS => ?_)
  have hP : va_P G.1 vwCl [(h0, .inr (6, [.int 0, .ref kd, .ref mo, .ref st, .int 0, .ref ro, .ref tp, .int 40, .ref cd, .ref sr, .int 0, .int 0, .int 0, .ref ir, .ref ih, .ref ss, .ref sq, .ref ce, .ref lw, .int 8, .int 6, .int 0, .int 0, .ref wo, .ref he, .int 0, .int 0, .int 0, .ref sk, .ref na, .ref kp, .int 0, .int 0, .int 0, .int 0, .ref gb, .ref go, .ref fa, .ref ga, .int 0, .int 0, .ref vo])), (tp, .inl (G.2.1, 160, .inl (gPf tB 40))), (wo, .inl (G.2.1, 96, .inl (gPf tW 96)))] H := hP
  have hD : va_D A [(h0, .inr (6, [.int 0, .ref kd, .ref mo, .ref st, .int 0, .ref ro, .ref tp, .int 40, .ref cd, .ref sr, .int 0, .int 0, .int 0, .ref ir, .ref ih, .ref ss, .ref sq, .ref ce, .ref lw, .int 8, .int 6, .int 0, .int 0, .ref wo, .ref he, .int 0, .int 0, .int 0, .ref sk, .ref na, .ref kp, .int 0, .int 0, .int 0, .int 0, .ref gb, .ref go, .ref fa, .ref ga, .int 0, .int 0, .ref vo])), (tp, .inl (G.2.1, 160, .inl (gPf tB 40))), (wo, .inl (G.2.1, 96, .inl (gPf tW 96)))] := hD
  refine lv_goto (tgt := 103) hx hb dX6_next_143 (by decide) ?_
  refine lv_aload_n hx hb dX6_next_103 rfl (lv_at hl 1 rfl) ?_
  refine va_get (D := G.1) (ci := 6) (v := .int 8) (C := RX6) (T := TX6) (N := 42) hx hb hts hiX6 hown hK hP 0 rfl rfl 19 (by decide) kf111 (fun _ h9 => h9) rfl dX6_next_104 ?_
  refine lv_aload_n hx hb dX6_next_107 rfl (lv_at hl 1 rfl) ?_
  refine va_get (D := G.1) (ci := 6) (v := .int 40) (C := RX6) (T := TX6) (N := 42) hx hb hts hiX6 hown hK hP 0 rfl rfl 7 (by decide) kf80 (fun _ h9 => h9) rfl dX6_next_108 ?_
  refine lv_icmp_ge (tgt := 146) hx hb dX6_next_111 (by decide) (fun c_27 => ?_) (fun c_27 => ?_)
  · exact absurd c_27 (by decide)
  refine lv_aload_n hx hb dX6_next_114 rfl (lv_at hl 1 rfl) ?_
  refine va_get (D := G.1) (ci := 6) (v := .ref tp) (C := RX6) (T := TX6) (N := 42) hx hb hts hiX6 hown hK hP 0 rfl rfl 6 (by decide) kf22 (fun _ h9 => h9) rfl dX6_next_115 ?_
  refine lv_aload_n hx hb dX6_next_118 rfl (lv_at hl 1 rfl) ?_
  refine va_get (D := G.1) (ci := 6) (v := .int 8) (C := RX6) (T := TX6) (N := 42) hx hb hts hiX6 hown hK hP 0 rfl rfl 19 (by decide) kf111 (fun _ h9 => h9) rfl dX6_next_119 ?_
  refine va_iald (D := G.1) hx hb hK hP 1 0 rfl rfl (i := 8) (gIn (by decide)) dX6_next_122 ?_
  refine lv_topi (fun v_28 ev_28 => ?_)
  have ev_28 : v_28 = 122 := ev_28.trans (by decide)
  subst ev_28
  refine lv_bipush (v := 97) hx hb dX6_next_123 (by decide) ?_
  refine lv_bipush (v := 122) hx hb dX6_next_125 (by decide) ?_
  have hPc : va_P G.1 vwCl [] H := hP.sub [] rfl
  have hDc : va_D A [] := hD.sub [] (by decide) rfl
  have hFc := va_free (wc := []) hD hS hA [] rfl
  refine va_calli (va_runS (As := [.int 122, .int 97, .int 122]) (rest := []) ⟨hx, hb, hml, hown, hts⟩ (c_X6_in_z11 l G H.size) (va_cwS 3 hts gX6_next_X6_in rfl rfl rfl (by decide +kernel) ⟨Nat.le_of_ble_eq_true rfl, Nat.le_of_ble_eq_true rfl⟩) ⟨gPre_blind, fun U hU hW => gPre_of hU hW hK hPc hDc⟩ rfl rfl hl.1 rfl (lv_room (Nat.le_of_ble_eq_true rfl)) dX6_next_127 ⟨Nat.le_of_ble_eq_true rfl, Nat.le_of_ble_eq_true rfl⟩) hS (fun q _ h => hFc q h) hFc (fun r_29 u t H locs ht hvm w_30 hB hz1 hk1 hS => ?_)
  obtain ⟨hP1, hK1, hD1⟩ := hB
  rw [ht] at hP1
  have hP1 : va_P G.1 vwCl [] H := hP1
  have hD1 : va_D (va_A [] _) [] := hD1
  have w_30 : r_29 = 1 := w_30
  obtain ⟨hP, hD⟩ := va_join (wr := [(h0, .inr (6, [.int 0, .ref kd, .ref mo, .ref st, .int 0, .ref ro, .ref tp, .int 40, .ref cd, .ref sr, .int 0, .int 0, .int 0, .ref ir, .ref ih, .ref ss, .ref sq, .ref ce, .ref lw, .int 8, .int 6, .int 0, .int 0, .ref wo, .ref he, .int 0, .int 0, .int 0, .ref sk, .ref na, .ref kp, .int 0, .int 0, .int 0, .int 0, .ref gb, .ref go, .ref fa, .ref ga, .int 0, .int 0, .ref vo])), (tp, .inl (G.2.1, 160, .inl (gPf tB 40))), (wo, .inl (G.2.1, 96, .inl (gPf tW 96)))]) (w1 := []) hP hD [] [0, 1, 2] rfl rfl (by decide) (by decide) hk1 hFc hP1 hD1
  have hP : va_P G.1 vwCl [(h0, .inr (6, [.int 0, .ref kd, .ref mo, .ref st, .int 0, .ref ro, .ref tp, .int 40, .ref cd, .ref sr, .int 0, .int 0, .int 0, .ref ir, .ref ih, .ref ss, .ref sq, .ref ce, .ref lw, .int 8, .int 6, .int 0, .int 0, .ref wo, .ref he, .int 0, .int 0, .int 0, .ref sk, .ref na, .ref kp, .int 0, .int 0, .int 0, .int 0, .ref gb, .ref go, .ref fa, .ref ga, .int 0, .int 0, .ref vo])), (tp, .inl (G.2.1, 160, .inl (gPf tB 40))), (wo, .inl (G.2.1, 96, .inl (gPf tW 96)))] H := hP
  have hD : va_D A [(h0, .inr (6, [.int 0, .ref kd, .ref mo, .ref st, .int 0, .ref ro, .ref tp, .int 40, .ref cd, .ref sr, .int 0, .int 0, .int 0, .ref ir, .ref ih, .ref ss, .ref sq, .ref ce, .ref lw, .int 8, .int 6, .int 0, .int 0, .ref wo, .ref he, .int 0, .int 0, .int 0, .ref sk, .ref na, .ref kp, .int 0, .int 0, .int 0, .int 0, .ref gb, .ref go, .ref fa, .ref ga, .int 0, .int 0, .ref vo])), (tp, .inl (G.2.1, 160, .inl (gPf tB 40))), (wo, .inl (G.2.1, 96, .inl (gPf tW 96)))] := hD
  have w_30 : r_29 = 1 := w_30
  subst w_30
  refine lv_if_eq (tgt := 146) hx hb dX6_next_130 (by decide) (fun c_31 => ?_) (fun c_31 => ?_)
  · exact absurd c_31 (by decide)
  refine lv_aload_n hx hb dX6_next_133 rfl (lv_at hl 1 rfl) ?_
  refine lv_dup hx hb dX6_next_134 rfl ?_
  refine va_get (D := G.1) (ci := 6) (v := .int 8) (C := RX6) (T := TX6) (N := 42) hx hb hts hiX6 hown hK hP 0 rfl rfl 19 (by decide) kf111 (fun _ h9 => h9) rfl dX6_next_135 ?_
  refine lv_iconst (v := 1) hx hb dX6_next_138 (by decide) ?_
  refine lv_iadd hx hb dX6_next_139 ?_
  refine lv_topi (fun v_32 ev_32 => ?_)
  have ev_32 : v_32 = 9 := ev_32.trans (by decide)
  subst ev_32
  refine va_put (D := G.1) (ci := 6) (v := .int 9) (ty := .int) (C := RX6) (T := TX6) (N := 42) hx hb hts hiX6 tyX6 tyX6_ok nmX6 hown hK hP hD hS 0 rfl rfl 19 (by decide) kf111 (fun _ h9 => h9) rfl (by decide +kernel) rfl rfl (Nat.le_of_ble_eq_true rfl) dX6_next_140 (fun H locs hP hD hS => ?_)
  have hP : va_P G.1 vwCl [(h0, .inr (6, [.int 0, .ref kd, .ref mo, .ref st, .int 0, .ref ro, .ref tp, .int 40, .ref cd, .ref sr, .int 0, .int 0, .int 0, .ref ir, .ref ih, .ref ss, .ref sq, .ref ce, .ref lw, .int 9, .int 6, .int 0, .int 0, .ref wo, .ref he, .int 0, .int 0, .int 0, .ref sk, .ref na, .ref kp, .int 0, .int 0, .int 0, .int 0, .ref gb, .ref go, .ref fa, .ref ga, .int 0, .int 0, .ref vo])), (tp, .inl (G.2.1, 160, .inl (gPf tB 40))), (wo, .inl (G.2.1, 96, .inl (gPf tW 96)))] H := hP
  have hD : va_D A [(h0, .inr (6, [.int 0, .ref kd, .ref mo, .ref st, .int 0, .ref ro, .ref tp, .int 40, .ref cd, .ref sr, .int 0, .int 0, .int 0, .ref ir, .ref ih, .ref ss, .ref sq, .ref ce, .ref lw, .int 9, .int 6, .int 0, .int 0, .ref wo, .ref he, .int 0, .int 0, .int 0, .ref sk, .ref na, .ref kp, .int 0, .int 0, .int 0, .int 0, .ref gb, .ref go, .ref fa, .ref ga, .int 0, .int 0, .ref vo])), (tp, .inl (G.2.1, 160, .inl (gPf tB 40))), (wo, .inl (G.2.1, 96, .inl (gPf tW 96)))] := hD
  refine lv_goto (tgt := 103) hx hb dX6_next_143 (by decide) ?_
  refine lv_aload_n hx hb dX6_next_103 rfl (lv_at hl 1 rfl) ?_
  refine va_get (D := G.1) (ci := 6) (v := .int 9) (C := RX6) (T := TX6) (N := 42) hx hb hts hiX6 hown hK hP 0 rfl rfl 19 (by decide) kf111 (fun _ h9 => h9) rfl dX6_next_104 ?_
  refine lv_aload_n hx hb dX6_next_107 rfl (lv_at hl 1 rfl) ?_
  refine va_get (D := G.1) (ci := 6) (v := .int 40) (C := RX6) (T := TX6) (N := 42) hx hb hts hiX6 hown hK hP 0 rfl rfl 7 (by decide) kf80 (fun _ h9 => h9) rfl dX6_next_108 ?_
  refine lv_icmp_ge (tgt := 146) hx hb dX6_next_111 (by decide) (fun c_33 => ?_) (fun c_33 => ?_)
  · exact absurd c_33 (by decide)
  refine lv_aload_n hx hb dX6_next_114 rfl (lv_at hl 1 rfl) ?_
  refine va_get (D := G.1) (ci := 6) (v := .ref tp) (C := RX6) (T := TX6) (N := 42) hx hb hts hiX6 hown hK hP 0 rfl rfl 6 (by decide) kf22 (fun _ h9 => h9) rfl dX6_next_115 ?_
  refine lv_aload_n hx hb dX6_next_118 rfl (lv_at hl 1 rfl) ?_
  refine va_get (D := G.1) (ci := 6) (v := .int 9) (C := RX6) (T := TX6) (N := 42) hx hb hts hiX6 hown hK hP 0 rfl rfl 19 (by decide) kf111 (fun _ h9 => h9) rfl dX6_next_119 ?_
  refine va_iald (D := G.1) hx hb hK hP 1 0 rfl rfl (i := 9) (gIn (by decide)) dX6_next_122 ?_
  refine lv_topi (fun v_34 ev_34 => ?_)
  have ev_34 : v_34 = 101 := ev_34.trans (by decide)
  subst ev_34
  refine lv_bipush (v := 97) hx hb dX6_next_123 (by decide) ?_
  refine lv_bipush (v := 122) hx hb dX6_next_125 (by decide) ?_
  have hPc : va_P G.1 vwCl [] H := hP.sub [] rfl
  have hDc : va_D A [] := hD.sub [] (by decide) rfl
  have hFc := va_free (wc := []) hD hS hA [] rfl
  refine va_calli (va_runS (As := [.int 101, .int 97, .int 122]) (rest := []) ⟨hx, hb, hml, hown, hts⟩ (c_X6_in_z3 l G H.size) (va_cwS 3 hts gX6_next_X6_in rfl rfl rfl (by decide +kernel) ⟨Nat.le_of_ble_eq_true rfl, Nat.le_of_ble_eq_true rfl⟩) ⟨gPre_blind, fun U hU hW => gPre_of hU hW hK hPc hDc⟩ rfl rfl hl.1 rfl (lv_room (Nat.le_of_ble_eq_true rfl)) dX6_next_127 ⟨Nat.le_of_ble_eq_true rfl, Nat.le_of_ble_eq_true rfl⟩) hS (fun q _ h => hFc q h) hFc (fun r_35 u t H locs ht hvm w_36 hB hz1 hk1 hS => ?_)
  obtain ⟨hP1, hK1, hD1⟩ := hB
  rw [ht] at hP1
  have hP1 : va_P G.1 vwCl [] H := hP1
  have hD1 : va_D (va_A [] _) [] := hD1
  have w_36 : r_35 = 1 := w_36
  obtain ⟨hP, hD⟩ := va_join (wr := [(h0, .inr (6, [.int 0, .ref kd, .ref mo, .ref st, .int 0, .ref ro, .ref tp, .int 40, .ref cd, .ref sr, .int 0, .int 0, .int 0, .ref ir, .ref ih, .ref ss, .ref sq, .ref ce, .ref lw, .int 9, .int 6, .int 0, .int 0, .ref wo, .ref he, .int 0, .int 0, .int 0, .ref sk, .ref na, .ref kp, .int 0, .int 0, .int 0, .int 0, .ref gb, .ref go, .ref fa, .ref ga, .int 0, .int 0, .ref vo])), (tp, .inl (G.2.1, 160, .inl (gPf tB 40))), (wo, .inl (G.2.1, 96, .inl (gPf tW 96)))]) (w1 := []) hP hD [] [0, 1, 2] rfl rfl (by decide) (by decide) hk1 hFc hP1 hD1
  have hP : va_P G.1 vwCl [(h0, .inr (6, [.int 0, .ref kd, .ref mo, .ref st, .int 0, .ref ro, .ref tp, .int 40, .ref cd, .ref sr, .int 0, .int 0, .int 0, .ref ir, .ref ih, .ref ss, .ref sq, .ref ce, .ref lw, .int 9, .int 6, .int 0, .int 0, .ref wo, .ref he, .int 0, .int 0, .int 0, .ref sk, .ref na, .ref kp, .int 0, .int 0, .int 0, .int 0, .ref gb, .ref go, .ref fa, .ref ga, .int 0, .int 0, .ref vo])), (tp, .inl (G.2.1, 160, .inl (gPf tB 40))), (wo, .inl (G.2.1, 96, .inl (gPf tW 96)))] H := hP
  have hD : va_D A [(h0, .inr (6, [.int 0, .ref kd, .ref mo, .ref st, .int 0, .ref ro, .ref tp, .int 40, .ref cd, .ref sr, .int 0, .int 0, .int 0, .ref ir, .ref ih, .ref ss, .ref sq, .ref ce, .ref lw, .int 9, .int 6, .int 0, .int 0, .ref wo, .ref he, .int 0, .int 0, .int 0, .ref sk, .ref na, .ref kp, .int 0, .int 0, .int 0, .int 0, .ref gb, .ref go, .ref fa, .ref ga, .int 0, .int 0, .ref vo])), (tp, .inl (G.2.1, 160, .inl (gPf tB 40))), (wo, .inl (G.2.1, 96, .inl (gPf tW 96)))] := hD
  have w_36 : r_35 = 1 := w_36
  subst w_36
  refine lv_if_eq (tgt := 146) hx hb dX6_next_130 (by decide) (fun c_37 => ?_) (fun c_37 => ?_)
  · exact absurd c_37 (by decide)
  refine lv_aload_n hx hb dX6_next_133 rfl (lv_at hl 1 rfl) ?_
  refine lv_dup hx hb dX6_next_134 rfl ?_
  refine va_get (D := G.1) (ci := 6) (v := .int 9) (C := RX6) (T := TX6) (N := 42) hx hb hts hiX6 hown hK hP 0 rfl rfl 19 (by decide) kf111 (fun _ h9 => h9) rfl dX6_next_135 ?_
  refine lv_iconst (v := 1) hx hb dX6_next_138 (by decide) ?_
  refine lv_iadd hx hb dX6_next_139 ?_
  refine lv_topi (fun v_38 ev_38 => ?_)
  have ev_38 : v_38 = 10 := ev_38.trans (by decide)
  subst ev_38
  refine va_put (D := G.1) (ci := 6) (v := .int 10) (ty := .int) (C := RX6) (T := TX6) (N := 42) hx hb hts hiX6 tyX6 tyX6_ok nmX6 hown hK hP hD hS 0 rfl rfl 19 (by decide) kf111 (fun _ h9 => h9) rfl (by decide +kernel) rfl rfl (Nat.le_of_ble_eq_true rfl) dX6_next_140 (fun H locs hP hD hS => ?_)
  have hP : va_P G.1 vwCl [(h0, .inr (6, [.int 0, .ref kd, .ref mo, .ref st, .int 0, .ref ro, .ref tp, .int 40, .ref cd, .ref sr, .int 0, .int 0, .int 0, .ref ir, .ref ih, .ref ss, .ref sq, .ref ce, .ref lw, .int 10, .int 6, .int 0, .int 0, .ref wo, .ref he, .int 0, .int 0, .int 0, .ref sk, .ref na, .ref kp, .int 0, .int 0, .int 0, .int 0, .ref gb, .ref go, .ref fa, .ref ga, .int 0, .int 0, .ref vo])), (tp, .inl (G.2.1, 160, .inl (gPf tB 40))), (wo, .inl (G.2.1, 96, .inl (gPf tW 96)))] H := hP
  have hD : va_D A [(h0, .inr (6, [.int 0, .ref kd, .ref mo, .ref st, .int 0, .ref ro, .ref tp, .int 40, .ref cd, .ref sr, .int 0, .int 0, .int 0, .ref ir, .ref ih, .ref ss, .ref sq, .ref ce, .ref lw, .int 10, .int 6, .int 0, .int 0, .ref wo, .ref he, .int 0, .int 0, .int 0, .ref sk, .ref na, .ref kp, .int 0, .int 0, .int 0, .int 0, .ref gb, .ref go, .ref fa, .ref ga, .int 0, .int 0, .ref vo])), (tp, .inl (G.2.1, 160, .inl (gPf tB 40))), (wo, .inl (G.2.1, 96, .inl (gPf tW 96)))] := hD
  refine lv_goto (tgt := 103) hx hb dX6_next_143 (by decide) ?_
  refine lv_aload_n hx hb dX6_next_103 rfl (lv_at hl 1 rfl) ?_
  refine va_get (D := G.1) (ci := 6) (v := .int 10) (C := RX6) (T := TX6) (N := 42) hx hb hts hiX6 hown hK hP 0 rfl rfl 19 (by decide) kf111 (fun _ h9 => h9) rfl dX6_next_104 ?_
  refine lv_aload_n hx hb dX6_next_107 rfl (lv_at hl 1 rfl) ?_
  refine va_get (D := G.1) (ci := 6) (v := .int 40) (C := RX6) (T := TX6) (N := 42) hx hb hts hiX6 hown hK hP 0 rfl rfl 7 (by decide) kf80 (fun _ h9 => h9) rfl dX6_next_108 ?_
  refine lv_icmp_ge (tgt := 146) hx hb dX6_next_111 (by decide) (fun c_39 => ?_) (fun c_39 => ?_)
  · exact absurd c_39 (by decide)
  refine lv_aload_n hx hb dX6_next_114 rfl (lv_at hl 1 rfl) ?_
  refine va_get (D := G.1) (ci := 6) (v := .ref tp) (C := RX6) (T := TX6) (N := 42) hx hb hts hiX6 hown hK hP 0 rfl rfl 6 (by decide) kf22 (fun _ h9 => h9) rfl dX6_next_115 ?_
  refine lv_aload_n hx hb dX6_next_118 rfl (lv_at hl 1 rfl) ?_
  refine va_get (D := G.1) (ci := 6) (v := .int 10) (C := RX6) (T := TX6) (N := 42) hx hb hts hiX6 hown hK hP 0 rfl rfl 19 (by decide) kf111 (fun _ h9 => h9) rfl dX6_next_119 ?_
  refine va_iald (D := G.1) hx hb hK hP 1 0 rfl rfl (i := 10) (gIn (by decide)) dX6_next_122 ?_
  refine lv_topi (fun v_40 ev_40 => ?_)
  have ev_40 : v_40 = 32 := ev_40.trans (by decide)
  subst ev_40
  refine lv_bipush (v := 97) hx hb dX6_next_123 (by decide) ?_
  refine lv_bipush (v := 122) hx hb dX6_next_125 (by decide) ?_
  have hPc : va_P G.1 vwCl [] H := hP.sub [] rfl
  have hDc : va_D A [] := hD.sub [] (by decide) rfl
  have hFc := va_free (wc := []) hD hS hA [] rfl
  refine va_calli (va_runS (As := [.int 32, .int 97, .int 122]) (rest := []) ⟨hx, hb, hml, hown, hts⟩ (c_X6_in_z6 l G H.size) (va_cwS 3 hts gX6_next_X6_in rfl rfl rfl (by decide +kernel) ⟨Nat.le_of_ble_eq_true rfl, Nat.le_of_ble_eq_true rfl⟩) ⟨gPre_blind, fun U hU hW => gPre_of hU hW hK hPc hDc⟩ rfl rfl hl.1 rfl (lv_room (Nat.le_of_ble_eq_true rfl)) dX6_next_127 ⟨Nat.le_of_ble_eq_true rfl, Nat.le_of_ble_eq_true rfl⟩) hS (fun q _ h => hFc q h) hFc (fun r_41 u t H locs ht hvm w_42 hB hz1 hk1 hS => ?_)
  obtain ⟨hP1, hK1, hD1⟩ := hB
  rw [ht] at hP1
  have hP1 : va_P G.1 vwCl [] H := hP1
  have hD1 : va_D (va_A [] _) [] := hD1
  have w_42 : r_41 = 0 := w_42
  obtain ⟨hP, hD⟩ := va_join (wr := [(h0, .inr (6, [.int 0, .ref kd, .ref mo, .ref st, .int 0, .ref ro, .ref tp, .int 40, .ref cd, .ref sr, .int 0, .int 0, .int 0, .ref ir, .ref ih, .ref ss, .ref sq, .ref ce, .ref lw, .int 10, .int 6, .int 0, .int 0, .ref wo, .ref he, .int 0, .int 0, .int 0, .ref sk, .ref na, .ref kp, .int 0, .int 0, .int 0, .int 0, .ref gb, .ref go, .ref fa, .ref ga, .int 0, .int 0, .ref vo])), (tp, .inl (G.2.1, 160, .inl (gPf tB 40))), (wo, .inl (G.2.1, 96, .inl (gPf tW 96)))]) (w1 := []) hP hD [] [0, 1, 2] rfl rfl (by decide) (by decide) hk1 hFc hP1 hD1
  have hP : va_P G.1 vwCl [(h0, .inr (6, [.int 0, .ref kd, .ref mo, .ref st, .int 0, .ref ro, .ref tp, .int 40, .ref cd, .ref sr, .int 0, .int 0, .int 0, .ref ir, .ref ih, .ref ss, .ref sq, .ref ce, .ref lw, .int 10, .int 6, .int 0, .int 0, .ref wo, .ref he, .int 0, .int 0, .int 0, .ref sk, .ref na, .ref kp, .int 0, .int 0, .int 0, .int 0, .ref gb, .ref go, .ref fa, .ref ga, .int 0, .int 0, .ref vo])), (tp, .inl (G.2.1, 160, .inl (gPf tB 40))), (wo, .inl (G.2.1, 96, .inl (gPf tW 96)))] H := hP
  have hD : va_D A [(h0, .inr (6, [.int 0, .ref kd, .ref mo, .ref st, .int 0, .ref ro, .ref tp, .int 40, .ref cd, .ref sr, .int 0, .int 0, .int 0, .ref ir, .ref ih, .ref ss, .ref sq, .ref ce, .ref lw, .int 10, .int 6, .int 0, .int 0, .ref wo, .ref he, .int 0, .int 0, .int 0, .ref sk, .ref na, .ref kp, .int 0, .int 0, .int 0, .int 0, .ref gb, .ref go, .ref fa, .ref ga, .int 0, .int 0, .ref vo])), (tp, .inl (G.2.1, 160, .inl (gPf tB 40))), (wo, .inl (G.2.1, 96, .inl (gPf tW 96)))] := hD
  have w_42 : r_41 = 0 := w_42
  subst w_42
  refine lv_if_eq (tgt := 146) hx hb dX6_next_130 (by decide) (fun c_43 => ?_) (fun c_43 => ?_)
  rotate_left
  · exact absurd (by decide) c_43
  refine lv_aload_n hx hb dX6_next_146 rfl (lv_at hl 1 rfl) ?_
  refine lv_aload_n hx hb dX6_next_147 rfl (lv_at hl 1 rfl) ?_
  refine va_get (D := G.1) (ci := 6) (v := .int 6) (C := RX6) (T := TX6) (N := 42) hx hb hts hiX6 hown hK hP 0 rfl rfl 20 (by decide) kf114 (fun _ h9 => h9) rfl dX6_next_148 ?_
  refine lv_aload_n hx hb dX6_next_151 rfl (lv_at hl 1 rfl) ?_
  refine va_get (D := G.1) (ci := 6) (v := .int 10) (C := RX6) (T := TX6) (N := 42) hx hb hts hiX6 hown hK hP 0 rfl rfl 19 (by decide) kf111 (fun _ h9 => h9) rfl dX6_next_152 ?_
  have hPc : va_P G.1 vwCl [(h0, .inr (6, [.int 0, .ref kd, .ref mo, .ref st, .int 0, .ref ro, .ref tp, .int 40, .ref cd, .ref sr, .int 0, .int 0, .int 0, .ref ir, .ref ih, .ref ss, .ref sq, .ref ce, .ref lw, .int 10, .int 6, .int 0, .int 0, .ref wo, .ref he, .int 0, .int 0, .int 0, .ref sk, .ref na, .ref kp, .int 0, .int 0, .int 0, .int 0, .ref gb, .ref go, .ref fa, .ref ga, .int 0, .int 0, .ref vo])), (tp, .inl (G.2.1, 160, .inl (gPf tB 40))), (wo, .inl (G.2.1, 96, .inl (gPf tW 96)))] H := hP.sub [0, 1, 2] rfl
  have hDc : va_D A [(h0, .inr (6, [.int 0, .ref kd, .ref mo, .ref st, .int 0, .ref ro, .ref tp, .int 40, .ref cd, .ref sr, .int 0, .int 0, .int 0, .ref ir, .ref ih, .ref ss, .ref sq, .ref ce, .ref lw, .int 10, .int 6, .int 0, .int 0, .ref wo, .ref he, .int 0, .int 0, .int 0, .ref sk, .ref na, .ref kp, .int 0, .int 0, .int 0, .int 0, .ref gb, .ref go, .ref fa, .ref ga, .int 0, .int 0, .ref vo])), (tp, .inl (G.2.1, 160, .inl (gPf tB 40))), (wo, .inl (G.2.1, 96, .inl (gPf tW 96)))] := hD.sub [0, 1, 2] (by decide) rfl
  have hFc := va_free (wc := [(h0, .inr (6, [.int 0, .ref kd, .ref mo, .ref st, .int 0, .ref ro, .ref tp, .int 40, .ref cd, .ref sr, .int 0, .int 0, .int 0, .ref ir, .ref ih, .ref ss, .ref sq, .ref ce, .ref lw, .int 10, .int 6, .int 0, .int 0, .ref wo, .ref he, .int 0, .int 0, .int 0, .ref sk, .ref na, .ref kp, .int 0, .int 0, .int 0, .int 0, .ref gb, .ref go, .ref fa, .ref ga, .int 0, .int 0, .ref vo])), (tp, .inl (G.2.1, 160, .inl (gPf tB 40))), (wo, .inl (G.2.1, 96, .inl (gPf tW 96)))]) hD hS hA [0, 1, 2] rfl
  refine va_calli (va_runV (As := [.int 6, .int 10]) (rest := []) ⟨hx, hb, hml, hown, hts⟩ (c_X6_wordFrom_z12 l G h0 kd mo st ro tp cd sr ir ih ss sq ce lw wo he sk na kp gb go fa ga vo H.size) (cwV 2 hts gX6_next_X6_wordFrom rfl rfl rfl (by decide +kernel) ⟨Nat.le_of_ble_eq_true rfl, Nat.le_of_ble_eq_true rfl⟩) ⟨gPre_blind, va_recv hK hPc (ci := 6) (q0 := 0) rfl rfl, fun U hU hW => gPre_of hU hW hK hPc hDc⟩ rfl rfl hl.1 rfl (lv_room (Nat.le_of_ble_eq_true rfl)) dX6_next_155 ⟨Nat.le_of_ble_eq_true rfl, Nat.le_of_ble_eq_true rfl⟩) hS (fun q _ h => hFc q h) hFc (fun r_44 u t H locs ht hvm w_45 hB hz1 hk1 hS => ?_)
  obtain ⟨hP1, hK1, hD1⟩ := hB
  rw [ht] at hP1
  have hP1 : va_P G.1 vwCl [(h0, .inr (6, [.int 0, .ref kd, .ref mo, .ref st, .int 0, .ref ro, .ref tp, .int 40, .ref cd, .ref sr, .int 0, .int 0, .int 0, .ref ir, .ref ih, .ref ss, .ref sq, .ref ce, .ref lw, .int 10, .int 6, .int 0, .int 0, .ref wo, .ref he, .int 0, .int 0, .int 0, .ref sk, .ref na, .ref kp, .int 0, .int 0, .int 0, .int 0, .ref gb, .ref go, .ref fa, .ref ga, .int 0, .int 0, .ref vo])), (tp, .inl (G.2.1, 160, .inl (gPf tB 40))), (wo, .inl (G.2.1, 96, .inl (gPf tW 96)))] H := hP1
  have hD1 : va_D (va_A [(h0, .inr (6, [.int 0, .ref kd, .ref mo, .ref st, .int 0, .ref ro, .ref tp, .int 40, .ref cd, .ref sr, .int 0, .int 0, .int 0, .ref ir, .ref ih, .ref ss, .ref sq, .ref ce, .ref lw, .int 10, .int 6, .int 0, .int 0, .ref wo, .ref he, .int 0, .int 0, .int 0, .ref sk, .ref na, .ref kp, .int 0, .int 0, .int 0, .int 0, .ref gb, .ref go, .ref fa, .ref ga, .int 0, .int 0, .ref vo])), (tp, .inl (G.2.1, 160, .inl (gPf tB 40))), (wo, .inl (G.2.1, 96, .inl (gPf tW 96)))] _) [(h0, .inr (6, [.int 0, .ref kd, .ref mo, .ref st, .int 0, .ref ro, .ref tp, .int 40, .ref cd, .ref sr, .int 0, .int 0, .int 0, .ref ir, .ref ih, .ref ss, .ref sq, .ref ce, .ref lw, .int 10, .int 6, .int 0, .int 0, .ref wo, .ref he, .int 0, .int 0, .int 0, .ref sk, .ref na, .ref kp, .int 0, .int 0, .int 0, .int 0, .ref gb, .ref go, .ref fa, .ref ga, .int 0, .int 0, .ref vo])), (tp, .inl (G.2.1, 160, .inl (gPf tB 40))), (wo, .inl (G.2.1, 96, .inl (gPf tW 96)))] := hD1
  have w_45 : r_44 = 3 := w_45
  obtain ⟨hP, hD⟩ := va_join (wr := []) (w1 := [(h0, .inr (6, [.int 0, .ref kd, .ref mo, .ref st, .int 0, .ref ro, .ref tp, .int 40, .ref cd, .ref sr, .int 0, .int 0, .int 0, .ref ir, .ref ih, .ref ss, .ref sq, .ref ce, .ref lw, .int 10, .int 6, .int 0, .int 0, .ref wo, .ref he, .int 0, .int 0, .int 0, .ref sk, .ref na, .ref kp, .int 0, .int 0, .int 0, .int 0, .ref gb, .ref go, .ref fa, .ref ga, .int 0, .int 0, .ref vo])), (tp, .inl (G.2.1, 160, .inl (gPf tB 40))), (wo, .inl (G.2.1, 96, .inl (gPf tW 96)))]) hP hD [0, 1, 2] [] rfl rfl (by decide) (by decide) hk1 hFc hP1 hD1
  have hP : va_P G.1 vwCl [(h0, .inr (6, [.int 0, .ref kd, .ref mo, .ref st, .int 0, .ref ro, .ref tp, .int 40, .ref cd, .ref sr, .int 0, .int 0, .int 0, .ref ir, .ref ih, .ref ss, .ref sq, .ref ce, .ref lw, .int 10, .int 6, .int 0, .int 0, .ref wo, .ref he, .int 0, .int 0, .int 0, .ref sk, .ref na, .ref kp, .int 0, .int 0, .int 0, .int 0, .ref gb, .ref go, .ref fa, .ref ga, .int 0, .int 0, .ref vo])), (tp, .inl (G.2.1, 160, .inl (gPf tB 40))), (wo, .inl (G.2.1, 96, .inl (gPf tW 96)))] H := hP
  have hD : va_D A [(h0, .inr (6, [.int 0, .ref kd, .ref mo, .ref st, .int 0, .ref ro, .ref tp, .int 40, .ref cd, .ref sr, .int 0, .int 0, .int 0, .ref ir, .ref ih, .ref ss, .ref sq, .ref ce, .ref lw, .int 10, .int 6, .int 0, .int 0, .ref wo, .ref he, .int 0, .int 0, .int 0, .ref sk, .ref na, .ref kp, .int 0, .int 0, .int 0, .int 0, .ref gb, .ref go, .ref fa, .ref ga, .int 0, .int 0, .ref vo])), (tp, .inl (G.2.1, 160, .inl (gPf tB 40))), (wo, .inl (G.2.1, 96, .inl (gPf tW 96)))] := hD
  have w_45 : r_44 = 3 := w_45
  subst w_45
  refine lv_istore_n (lv' := [(2, .int 3), (1, .int 115), (0, .ref h0)]) hx hb dX6_next_158 rfl hl (by decide) rfl (fun ls hl => ?_)
  refine lv_aload_n hx hb dX6_next_159 rfl (lv_at hl 2 rfl) ?_
  refine lv_iload_n hx hb dX6_next_160 rfl (lv_at hl 0 rfl) ?_
  refine lv_iconst (v := 3) hx hb dX6_next_161 (by decide) ?_
  refine lv_icmp_ge (tgt := 169) hx hb dX6_next_162 (by decide) (fun c_46 => ?_) (fun c_46 => ?_)
  rotate_left
  · exact absurd (by decide) c_46
  refine lv_iload_n hx hb dX6_next_169 rfl (lv_at hl 0 rfl) ?_
  refine lv_bipush (v := 9) hx hb dX6_next_170 (by decide) ?_
  refine lv_icmp_ge (tgt := 179) hx hb dX6_next_172 (by decide) (fun c_47 => ?_) (fun c_47 => ?_)
  · exact absurd c_47 (by decide)
  refine lv_iconst (v := 2) hx hb dX6_next_175 (by decide) ?_
  refine lv_goto (tgt := 195) hx hb dX6_next_176 (by decide) ?_
  refine va_put (D := G.1) (ci := 6) (v := .int 2) (ty := .int) (C := RX6) (T := TX6) (N := 42) hx hb hts hiX6 tyX6 tyX6_ok nmX6 hown hK hP hD hS 0 rfl rfl 21 (by decide) kf117 (fun _ h9 => h9) rfl (by decide +kernel) rfl rfl (Nat.le_of_ble_eq_true rfl) dX6_next_195 (fun H locs hP hD hS => ?_)
  have hP : va_P G.1 vwCl [(h0, .inr (6, [.int 0, .ref kd, .ref mo, .ref st, .int 0, .ref ro, .ref tp, .int 40, .ref cd, .ref sr, .int 0, .int 0, .int 0, .ref ir, .ref ih, .ref ss, .ref sq, .ref ce, .ref lw, .int 10, .int 6, .int 2, .int 0, .ref wo, .ref he, .int 0, .int 0, .int 0, .ref sk, .ref na, .ref kp, .int 0, .int 0, .int 0, .int 0, .ref gb, .ref go, .ref fa, .ref ga, .int 0, .int 0, .ref vo])), (tp, .inl (G.2.1, 160, .inl (gPf tB 40))), (wo, .inl (G.2.1, 96, .inl (gPf tW 96)))] H := hP
  have hD : va_D A [(h0, .inr (6, [.int 0, .ref kd, .ref mo, .ref st, .int 0, .ref ro, .ref tp, .int 40, .ref cd, .ref sr, .int 0, .int 0, .int 0, .ref ir, .ref ih, .ref ss, .ref sq, .ref ce, .ref lw, .int 10, .int 6, .int 2, .int 0, .ref wo, .ref he, .int 0, .int 0, .int 0, .ref sk, .ref na, .ref kp, .int 0, .int 0, .int 0, .int 0, .ref gb, .ref go, .ref fa, .ref ga, .int 0, .int 0, .ref vo])), (tp, .inl (G.2.1, 160, .inl (gPf tB 40))), (wo, .inl (G.2.1, 96, .inl (gPf tW 96)))] := hD
  refine lv_aload_n hx hb dX6_next_198 rfl (lv_at hl 2 rfl) ?_
  refine lv_iload_n hx hb dX6_next_199 rfl (lv_at hl 0 rfl) ?_
  refine lv_iconst (v := 3) hx hb dX6_next_200 (by decide) ?_
  refine lv_icmp_ge (tgt := 208) hx hb dX6_next_201 (by decide) (fun c_48 => ?_) (fun c_48 => ?_)
  rotate_left
  · exact absurd (by decide) c_48
  refine lv_iload_n hx hb dX6_next_208 rfl (lv_at hl 0 rfl) ?_
  refine lv_iconst (v := 3) hx hb dX6_next_209 (by decide) ?_
  refine lv_isub hx hb dX6_next_210 ?_
  refine lv_topi (fun v_49 ev_49 => ?_)
  have ev_49 : v_49 = 0 := ev_49.trans (by decide)
  subst ev_49
  refine va_put (D := G.1) (ci := 6) (v := .int 0) (ty := .int) (C := RX6) (T := TX6) (N := 42) hx hb hts hiX6 tyX6 tyX6_ok nmX6 hown hK hP hD hS 0 rfl rfl 22 (by decide) kf120 (fun _ h9 => h9) rfl (by decide +kernel) rfl rfl (Nat.le_of_ble_eq_true rfl) dX6_next_211 (fun H locs hP hD hS => ?_)
  have hP : va_P G.1 vwCl [(h0, .inr (6, [.int 0, .ref kd, .ref mo, .ref st, .int 0, .ref ro, .ref tp, .int 40, .ref cd, .ref sr, .int 0, .int 0, .int 0, .ref ir, .ref ih, .ref ss, .ref sq, .ref ce, .ref lw, .int 10, .int 6, .int 2, .int 0, .ref wo, .ref he, .int 0, .int 0, .int 0, .ref sk, .ref na, .ref kp, .int 0, .int 0, .int 0, .int 0, .ref gb, .ref go, .ref fa, .ref ga, .int 0, .int 0, .ref vo])), (tp, .inl (G.2.1, 160, .inl (gPf tB 40))), (wo, .inl (G.2.1, 96, .inl (gPf tW 96)))] H := hP
  have hD : va_D A [(h0, .inr (6, [.int 0, .ref kd, .ref mo, .ref st, .int 0, .ref ro, .ref tp, .int 40, .ref cd, .ref sr, .int 0, .int 0, .int 0, .ref ir, .ref ih, .ref ss, .ref sq, .ref ce, .ref lw, .int 10, .int 6, .int 2, .int 0, .ref wo, .ref he, .int 0, .int 0, .int 0, .ref sk, .ref na, .ref kp, .int 0, .int 0, .int 0, .int 0, .ref gb, .ref go, .ref fa, .ref ga, .int 0, .int 0, .ref vo])), (tp, .inl (G.2.1, 160, .inl (gPf tB 40))), (wo, .inl (G.2.1, 96, .inl (gPf tW 96)))] := hD
  refine lv_goto (tgt := 403) hx hb dX6_next_214 (by decide) ?_
  have hP9 := hP.sub (ws' := [(h0, .inr (6, [.int 0, .ref kd, .ref mo, .ref st, .int 0, .ref ro, .ref tp, .int 40, .ref cd, .ref sr, .int 0, .int 0, .int 0, .ref ir, .ref ih, .ref ss, .ref sq, .ref ce, .ref lw, .int 10, .int 6, .int 2, .int 0, .ref wo, .ref he, .int 0, .int 0, .int 0, .ref sk, .ref na, .ref kp, .int 0, .int 0, .int 0, .int 0, .ref gb, .ref go, .ref fa, .ref ga, .int 0, .int 0, .ref vo])), (tp, .inl (G.2.1, 160, .inl (gPf tB 40))), (wo, .inl (G.2.1, 96, .inl (gPf tW 96)))]) [0, 1, 2] rfl
  have hD9 := hD.sub (ws' := [(h0, .inr (6, [.int 0, .ref kd, .ref mo, .ref st, .int 0, .ref ro, .ref tp, .int 40, .ref cd, .ref sr, .int 0, .int 0, .int 0, .ref ir, .ref ih, .ref ss, .ref sq, .ref ce, .ref lw, .int 10, .int 6, .int 2, .int 0, .ref wo, .ref he, .int 0, .int 0, .int 0, .ref sk, .ref na, .ref kp, .int 0, .int 0, .int 0, .int 0, .ref gb, .ref go, .ref fa, .ref ga, .int 0, .int 0, .ref vo])), (tp, .inl (G.2.1, 160, .inl (gPf tB 40))), (wo, .inl (G.2.1, 96, .inl (gPf tW 96)))]) [0, 1, 2] (by decide) rfl
  have hpost : (fun (u : Unit) => match u with | _ => True) () := by first | rfl | trivial
  exact W.vret hx hb hr (fun t ht hW => ⟨⟨(), rfl, hpost, by rw [ht]; exact hP9, va_K.moved hW.alike hK, hD9⟩, hS.F ht⟩) hS.2.2 dX6_next_403
abbrev q_X6_puts_z13 (G : gG) (h0 cd kd mo st ro tp sr ir ih ss sq ce lw wo he sk na kp gb go fa ga vo : Nat) (A : Nat → Prop) : Array Value → State → Outcome → State → Prop := va_Qv (fun (u : Unit) => match u with | _ => True) (fun (u : Unit) t => match u with | _ => va_P G.1 vwCl [(cd, .inl (G.2.1, 1200, .inl (upd (fun _ => 0) 0 0))), (h0, .inr (6, [.int 0, .ref kd, .ref mo, .ref st, .int 0, .ref ro, .ref tp, .int 40, .ref cd, .ref sr, .int 0, .int 0, .int 0, .ref ir, .ref ih, .ref ss, .ref sq, .ref ce, .ref lw, .int 10, .int 6, .int 2, .int 0, .ref wo, .ref he, .int 0, .int 0, .int 1, .ref sk, .ref na, .ref kp, .int 0, .int 0, .int 0, .int 0, .ref gb, .ref go, .ref fa, .ref ga, .int 0, .int 0, .ref vo]))] t.heap ∧ gK G t ∧ va_D A [(cd, .inl (G.2.1, 1200, .inl (upd (fun _ => 0) 0 0))), (h0, .inr (6, [.int 0, .ref kd, .ref mo, .ref st, .int 0, .ref ro, .ref tp, .int 40, .ref cd, .ref sr, .int 0, .int 0, .int 0, .ref ir, .ref ih, .ref ss, .ref sq, .ref ce, .ref lw, .int 10, .int 6, .int 2, .int 0, .ref wo, .ref he, .int 0, .int 0, .int 1, .ref sk, .ref na, .ref kp, .int 0, .int 0, .int 0, .int 0, .ref gb, .ref go, .ref fa, .ref ga, .int 0, .int 0, .ref vo]))]) A
set_option maxHeartbeats 4000000 in
set_option maxRecDepth 100000 in
theorem c_X6_puts_z13 (l : Launch) (G : gG) (h0 cd kd mo st ro tp sr ir ih ss sq ce lw wo he sk na kp gb go fa ga vo : Nat) (sz : Nat) : Met l yX6_puts wsX6_puts ({ frames := 0, cells := 0, slots := 0, locals := 0 }) (gPre G [.ref h0, .int 0] [(cd, .inl (G.2.1, 1200, .inl (fun _ => 0))), (h0, .inr (6, [.int 0, .ref kd, .ref mo, .ref st, .int 0, .ref ro, .ref tp, .int 40, .ref cd, .ref sr, .int 0, .int 0, .int 0, .ref ir, .ref ih, .ref ss, .ref sq, .ref ce, .ref lw, .int 10, .int 6, .int 2, .int 0, .ref wo, .ref he, .int 0, .int 0, .int 0, .ref sk, .ref na, .ref kp, .int 0, .int 0, .int 0, .int 0, .ref gb, .ref go, .ref fa, .ref ga, .int 0, .int 0, .ref vo]))] sz) (q_X6_puts_z13 G h0 cd kd mo st ro tp sr ir ih ss sq ce lw wo he sk na kp gb go fa ga vo (va_A [(cd, .inl (G.2.1, 1200, .inl (fun _ => 0))), (h0, .inr (6, [.int 0, .ref kd, .ref mo, .ref st, .int 0, .ref ro, .ref tp, .int 40, .ref cd, .ref sr, .int 0, .int 0, .int 0, .ref ir, .ref ih, .ref ss, .ref sq, .ref ce, .ref lw, .int 10, .int 6, .int 2, .int 0, .ref wo, .ref he, .int 0, .int 0, .int 0, .ref sk, .ref na, .ref kp, .int 0, .int 0, .int 0, .int 0, .ref gb, .ref go, .ref fa, .ref ga, .int 0, .int 0, .ref vo]))] sz)) 0 0 (va_A [(cd, .inl (G.2.1, 1200, .inl (fun _ => 0))), (h0, .inr (6, [.int 0, .ref kd, .ref mo, .ref st, .int 0, .ref ro, .ref tp, .int 40, .ref cd, .ref sr, .int 0, .int 0, .int 0, .ref ir, .ref ih, .ref ss, .ref sq, .ref ce, .ref lw, .int 10, .int 6, .int 2, .int 0, .ref wo, .ref he, .int 0, .int 0, .int 0, .ref sk, .ref na, .ref kp, .int 0, .int 0, .int 0, .int 0, .ref gb, .ref go, .ref fa, .ref ga, .int 0, .int 0, .ref vo]))] sz) := by
  refine Met.ofW (cc := cX6_puts) (maxL := 2) (ret := none) (by decide) rfl ?_
  intro p e s m args below meth c s₁ B hml hv
  obtain ⟨rfl, hsz, hP, hK, hD0⟩ := hv
  have hx := B.exec
  have hb := B.bytes
  have hr := B.returns
  have hts := atoms_spec (ws := wsX6_puts) B.pre
  have hown : s.vm.findClass RX6 = some m.cls := findClass_of_methodNamed B.named
  have hlocks := B.notSynchronized
  subst hsz
  have hD := hD0.self (sz := s.heap.size)
  generalize hAe : va_A [(cd, .inl (G.2.1, 1200, .inl (fun _ => 0))), (h0, .inr (6, [.int 0, .ref kd, .ref mo, .ref st, .int 0, .ref ro, .ref tp, .int 40, .ref cd, .ref sr, .int 0, .int 0, .int 0, .ref ir, .ref ih, .ref ss, .ref sq, .ref ce, .ref lw, .int 10, .int 6, .int 2, .int 0, .ref wo, .ref he, .int 0, .int 0, .int 0, .ref sk, .ref na, .ref kp, .int 0, .int 0, .int 0, .int 0, .ref gb, .ref go, .ref fa, .ref ga, .int 0, .int 0, .ref vo]))] s.heap.size = A at hD ⊢
  have hA : ∀ q : Nat, s.heap.size ≤ q → A q := fun q h => by rw [← hAe]; exact Or.inr h
  have hS : va_S A s.heap s.heap [] := va_S.rf
  have hP : va_P G.1 vwCl [(cd, .inl (G.2.1, 1200, .inl (fun _ => 0))), (h0, .inr (6, [.int 0, .ref kd, .ref mo, .ref st, .int 0, .ref ro, .ref tp, .int 40, .ref cd, .ref sr, .int 0, .int 0, .int 0, .ref ir, .ref ih, .ref ss, .ref sq, .ref ce, .ref lw, .int 10, .int 6, .int 2, .int 0, .ref wo, .ref he, .int 0, .int 0, .int 0, .ref sk, .ref na, .ref kp, .int 0, .int 0, .int 0, .int 0, .ref gb, .ref go, .ref fa, .ref ga, .int 0, .int 0, .ref vo]))] s.heap := hP
  have hD : va_D A [(cd, .inl (G.2.1, 1200, .inl (fun _ => 0))), (h0, .inr (6, [.int 0, .ref kd, .ref mo, .ref st, .int 0, .ref ro, .ref tp, .int 40, .ref cd, .ref sr, .int 0, .int 0, .int 0, .ref ir, .ref ih, .ref ss, .ref sq, .ref ce, .ref lw, .int 10, .int 6, .int 2, .int 0, .ref wo, .ref he, .int 0, .int 0, .int 0, .ref sk, .ref na, .ref kp, .int 0, .int 0, .int 0, .int 0, .ref gb, .ref go, .ref fa, .ref ga, .int 0, .int 0, .ref vo]))] := hD
  have hl := lv_entry ([.ref h0, .int 0]) (n := 2) (Nat.le_of_ble_eq_true rfl)
  rw [lg_entry_eq]
  generalize (lg_sl ([.ref h0, .int 0]) ++ List.replicate (2 - (lg_sl ([.ref h0, .int 0])).length) Slot.unset).toArray = ls at hl ⊢
  have hl : lv_has ls 2 [(0, .ref h0), (1, .int 0)] := hl
  have kf25 := hts (.fieldLink RX6 25 "PebbleInShoeModel" "codes" "[I") (by decide +kernel)
  have hiX6 := (by decide +kernel : ∀ w ∈ wsX60, w ∈ wsX6_puts)
  have kf98 := hts (.fieldLink RX6 98 "PebbleInShoeModel" "texts" "I") (by decide +kernel)
  have kf127 := hts (.fieldLink RX6 127 "PebbleInShoeModel" "out" "I") (by decide +kernel)
  refine lv_aload_n hx hb dX6_puts_0 rfl (lv_at hl 0 rfl) ?_
  refine va_get (D := G.1) (ci := 6) (v := .ref cd) (C := RX6) (T := TX6) (N := 42) hx hb hts hiX6 hown hK hP 1 rfl rfl 8 (by decide) kf25 (fun _ h9 => h9) rfl dX6_puts_1 ?_
  refine lv_sipush (v := 200) hx hb dX6_puts_4 (by decide) ?_
  refine lv_aload_n hx hb dX6_puts_7 rfl (lv_at hl 0 rfl) ?_
  refine va_get (D := G.1) (ci := 6) (v := .int 0) (C := RX6) (T := TX6) (N := 42) hx hb hts hiX6 hown hK hP 1 rfl rfl 10 (by decide) kf98 (fun _ h9 => h9) rfl dX6_puts_8 ?_
  refine lv_imul hx hb dX6_puts_11 ?_
  refine lv_topi (fun v_1 ev_1 => ?_)
  have ev_1 : v_1 = 0 := ev_1.trans (by decide)
  subst ev_1
  refine lv_aload_n hx hb dX6_puts_12 rfl (lv_at hl 0 rfl) ?_
  refine va_get (D := G.1) (ci := 6) (v := .int 0) (C := RX6) (T := TX6) (N := 42) hx hb hts hiX6 hown hK hP 1 rfl rfl 27 (by decide) kf127 (fun _ h9 => h9) rfl dX6_puts_13 ?_
  refine lv_iadd hx hb dX6_puts_16 ?_
  refine lv_topi (fun v_2 ev_2 => ?_)
  have ev_2 : v_2 = 0 := ev_2.trans (by decide)
  subst ev_2
  refine lv_iload_n hx hb dX6_puts_17 rfl (lv_at hl 1 rfl) ?_
  refine va_iast (D := G.1) hx hb hK hP hD hS 0 0 rfl rfl (i := 0) (x := 0) (gIn (by decide)) dX6_puts_18 (fun H locs hP hD hS => ?_)
  have hP : va_P G.1 vwCl [(cd, .inl (G.2.1, 1200, .inl (upd (fun _ => 0) 0 0))), (h0, .inr (6, [.int 0, .ref kd, .ref mo, .ref st, .int 0, .ref ro, .ref tp, .int 40, .ref cd, .ref sr, .int 0, .int 0, .int 0, .ref ir, .ref ih, .ref ss, .ref sq, .ref ce, .ref lw, .int 10, .int 6, .int 2, .int 0, .ref wo, .ref he, .int 0, .int 0, .int 0, .ref sk, .ref na, .ref kp, .int 0, .int 0, .int 0, .int 0, .ref gb, .ref go, .ref fa, .ref ga, .int 0, .int 0, .ref vo]))] H := hP
  have hD : va_D A [(cd, .inl (G.2.1, 1200, .inl (upd (fun _ => 0) 0 0))), (h0, .inr (6, [.int 0, .ref kd, .ref mo, .ref st, .int 0, .ref ro, .ref tp, .int 40, .ref cd, .ref sr, .int 0, .int 0, .int 0, .ref ir, .ref ih, .ref ss, .ref sq, .ref ce, .ref lw, .int 10, .int 6, .int 2, .int 0, .ref wo, .ref he, .int 0, .int 0, .int 0, .ref sk, .ref na, .ref kp, .int 0, .int 0, .int 0, .int 0, .ref gb, .ref go, .ref fa, .ref ga, .int 0, .int 0, .ref vo]))] := hD
  refine lv_aload_n hx hb dX6_puts_19 rfl (lv_at hl 0 rfl) ?_
  refine lv_dup hx hb dX6_puts_20 rfl ?_
  refine va_get (D := G.1) (ci := 6) (v := .int 0) (C := RX6) (T := TX6) (N := 42) hx hb hts hiX6 hown hK hP 1 rfl rfl 27 (by decide) kf127 (fun _ h9 => h9) rfl dX6_puts_21 ?_
  refine lv_iconst (v := 1) hx hb dX6_puts_24 (by decide) ?_
  refine lv_iadd hx hb dX6_puts_25 ?_
  refine lv_topi (fun v_3 ev_3 => ?_)
  have ev_3 : v_3 = 1 := ev_3.trans (by decide)
  subst ev_3
  refine va_put (D := G.1) (ci := 6) (v := .int 1) (ty := .int) (C := RX6) (T := TX6) (N := 42) hx hb hts hiX6 tyX6 tyX6_ok nmX6 hown hK hP hD hS 1 rfl rfl 27 (by decide) kf127 (fun _ h9 => h9) rfl (by decide +kernel) rfl rfl (Nat.le_of_ble_eq_true rfl) dX6_puts_26 (fun H locs hP hD hS => ?_)
  have hP : va_P G.1 vwCl [(cd, .inl (G.2.1, 1200, .inl (upd (fun _ => 0) 0 0))), (h0, .inr (6, [.int 0, .ref kd, .ref mo, .ref st, .int 0, .ref ro, .ref tp, .int 40, .ref cd, .ref sr, .int 0, .int 0, .int 0, .ref ir, .ref ih, .ref ss, .ref sq, .ref ce, .ref lw, .int 10, .int 6, .int 2, .int 0, .ref wo, .ref he, .int 0, .int 0, .int 1, .ref sk, .ref na, .ref kp, .int 0, .int 0, .int 0, .int 0, .ref gb, .ref go, .ref fa, .ref ga, .int 0, .int 0, .ref vo]))] H := hP
  have hD : va_D A [(cd, .inl (G.2.1, 1200, .inl (upd (fun _ => 0) 0 0))), (h0, .inr (6, [.int 0, .ref kd, .ref mo, .ref st, .int 0, .ref ro, .ref tp, .int 40, .ref cd, .ref sr, .int 0, .int 0, .int 0, .ref ir, .ref ih, .ref ss, .ref sq, .ref ce, .ref lw, .int 10, .int 6, .int 2, .int 0, .ref wo, .ref he, .int 0, .int 0, .int 1, .ref sk, .ref na, .ref kp, .int 0, .int 0, .int 0, .int 0, .ref gb, .ref go, .ref fa, .ref ga, .int 0, .int 0, .ref vo]))] := hD
  have hP9 := hP.sub (ws' := [(cd, .inl (G.2.1, 1200, .inl (upd (fun _ => 0) 0 0))), (h0, .inr (6, [.int 0, .ref kd, .ref mo, .ref st, .int 0, .ref ro, .ref tp, .int 40, .ref cd, .ref sr, .int 0, .int 0, .int 0, .ref ir, .ref ih, .ref ss, .ref sq, .ref ce, .ref lw, .int 10, .int 6, .int 2, .int 0, .ref wo, .ref he, .int 0, .int 0, .int 1, .ref sk, .ref na, .ref kp, .int 0, .int 0, .int 0, .int 0, .ref gb, .ref go, .ref fa, .ref ga, .int 0, .int 0, .ref vo]))]) [0, 1] rfl
  have hD9 := hD.sub (ws' := [(cd, .inl (G.2.1, 1200, .inl (upd (fun _ => 0) 0 0))), (h0, .inr (6, [.int 0, .ref kd, .ref mo, .ref st, .int 0, .ref ro, .ref tp, .int 40, .ref cd, .ref sr, .int 0, .int 0, .int 0, .ref ir, .ref ih, .ref ss, .ref sq, .ref ce, .ref lw, .int 10, .int 6, .int 2, .int 0, .ref wo, .ref he, .int 0, .int 0, .int 1, .ref sk, .ref na, .ref kp, .int 0, .int 0, .int 0, .int 0, .ref gb, .ref go, .ref fa, .ref ga, .int 0, .int 0, .ref vo]))]) [0, 1] (by decide) rfl
  have hpost : (fun (u : Unit) => match u with | _ => True) () := by first | rfl | trivial
  exact W.vret hx hb hr (fun t ht hW => ⟨⟨(), rfl, hpost, by rw [ht]; exact hP9, va_K.moved hW.alike hK, hD9⟩, hS.F ht⟩) hS.2.2 dX6_puts_29
abbrev q_X6_unwinds_z14 (G : gG) (h0 he cd kd mo st ro tp sr ir ih ss sq ce lw wo sk na kp gb go fa ga vo : Nat) (A : Nat → Prop) : Array Value → State → Outcome → State → Prop := va_Qv (fun (u : Unit) => match u with | _ => True) (fun (u : Unit) t => match u with | _ => va_P G.1 vwCl [(he, .inl (G.2.1, 200, .inl (fun _ => 0))), (cd, .inl (G.2.1, 1200, .inl (upd (fun _ => 0) 0 0))), (h0, .inr (6, [.int 0, .ref kd, .ref mo, .ref st, .int 0, .ref ro, .ref tp, .int 40, .ref cd, .ref sr, .int 0, .int 0, .int 0, .ref ir, .ref ih, .ref ss, .ref sq, .ref ce, .ref lw, .int 10, .int 6, .int 2, .int 0, .ref wo, .ref he, .int 0, .int 0, .int 1, .ref sk, .ref na, .ref kp, .int 0, .int 0, .int 0, .int 0, .ref gb, .ref go, .ref fa, .ref ga, .int 0, .int 0, .ref vo]))] t.heap ∧ gK G t ∧ va_D A [(he, .inl (G.2.1, 200, .inl (fun _ => 0))), (cd, .inl (G.2.1, 1200, .inl (upd (fun _ => 0) 0 0))), (h0, .inr (6, [.int 0, .ref kd, .ref mo, .ref st, .int 0, .ref ro, .ref tp, .int 40, .ref cd, .ref sr, .int 0, .int 0, .int 0, .ref ir, .ref ih, .ref ss, .ref sq, .ref ce, .ref lw, .int 10, .int 6, .int 2, .int 0, .ref wo, .ref he, .int 0, .int 0, .int 1, .ref sk, .ref na, .ref kp, .int 0, .int 0, .int 0, .int 0, .ref gb, .ref go, .ref fa, .ref ga, .int 0, .int 0, .ref vo]))]) A
set_option maxHeartbeats 4000000 in
set_option maxRecDepth 100000 in
theorem c_X6_unwinds_z14 (l : Launch) (G : gG) (h0 he cd kd mo st ro tp sr ir ih ss sq ce lw wo sk na kp gb go fa ga vo : Nat) (sz : Nat) : Met l yX6_unwinds wsX6_unwinds ({ frames := 0, cells := 0, slots := 0, locals := 0 }) (gPre G [.ref h0, .int 7] [(he, .inl (G.2.1, 200, .inl (fun _ => 0))), (cd, .inl (G.2.1, 1200, .inl (upd (fun _ => 0) 0 0))), (h0, .inr (6, [.int 0, .ref kd, .ref mo, .ref st, .int 0, .ref ro, .ref tp, .int 40, .ref cd, .ref sr, .int 0, .int 0, .int 0, .ref ir, .ref ih, .ref ss, .ref sq, .ref ce, .ref lw, .int 10, .int 6, .int 2, .int 0, .ref wo, .ref he, .int 0, .int 0, .int 1, .ref sk, .ref na, .ref kp, .int 0, .int 0, .int 0, .int 0, .ref gb, .ref go, .ref fa, .ref ga, .int 0, .int 0, .ref vo]))] sz) (q_X6_unwinds_z14 G h0 he cd kd mo st ro tp sr ir ih ss sq ce lw wo sk na kp gb go fa ga vo (va_A [(he, .inl (G.2.1, 200, .inl (fun _ => 0))), (cd, .inl (G.2.1, 1200, .inl (upd (fun _ => 0) 0 0))), (h0, .inr (6, [.int 0, .ref kd, .ref mo, .ref st, .int 0, .ref ro, .ref tp, .int 40, .ref cd, .ref sr, .int 0, .int 0, .int 0, .ref ir, .ref ih, .ref ss, .ref sq, .ref ce, .ref lw, .int 10, .int 6, .int 2, .int 0, .ref wo, .ref he, .int 0, .int 0, .int 1, .ref sk, .ref na, .ref kp, .int 0, .int 0, .int 0, .int 0, .ref gb, .ref go, .ref fa, .ref ga, .int 0, .int 0, .ref vo]))] sz)) 0 0 (va_A [(he, .inl (G.2.1, 200, .inl (fun _ => 0))), (cd, .inl (G.2.1, 1200, .inl (upd (fun _ => 0) 0 0))), (h0, .inr (6, [.int 0, .ref kd, .ref mo, .ref st, .int 0, .ref ro, .ref tp, .int 40, .ref cd, .ref sr, .int 0, .int 0, .int 0, .ref ir, .ref ih, .ref ss, .ref sq, .ref ce, .ref lw, .int 10, .int 6, .int 2, .int 0, .ref wo, .ref he, .int 0, .int 0, .int 1, .ref sk, .ref na, .ref kp, .int 0, .int 0, .int 0, .int 0, .ref gb, .ref go, .ref fa, .ref ga, .int 0, .int 0, .ref vo]))] sz) := by
  refine Met.ofW (cc := cX6_unwinds) (maxL := 3) (ret := none) (by decide) rfl ?_
  intro p e s m args below meth c s₁ B hml hv
  obtain ⟨rfl, hsz, hP, hK, hD0⟩ := hv
  have hx := B.exec
  have hb := B.bytes
  have hr := B.returns
  have hts := atoms_spec (ws := wsX6_unwinds) B.pre
  have hown : s.vm.findClass RX6 = some m.cls := findClass_of_methodNamed B.named
  have hlocks := B.notSynchronized
  subst hsz
  have hD := hD0.self (sz := s.heap.size)
  generalize hAe : va_A [(he, .inl (G.2.1, 200, .inl (fun _ => 0))), (cd, .inl (G.2.1, 1200, .inl (upd (fun _ => 0) 0 0))), (h0, .inr (6, [.int 0, .ref kd, .ref mo, .ref st, .int 0, .ref ro, .ref tp, .int 40, .ref cd, .ref sr, .int 0, .int 0, .int 0, .ref ir, .ref ih, .ref ss, .ref sq, .ref ce, .ref lw, .int 10, .int 6, .int 2, .int 0, .ref wo, .ref he, .int 0, .int 0, .int 1, .ref sk, .ref na, .ref kp, .int 0, .int 0, .int 0, .int 0, .ref gb, .ref go, .ref fa, .ref ga, .int 0, .int 0, .ref vo]))] s.heap.size = A at hD ⊢
  have hA : ∀ q : Nat, s.heap.size ≤ q → A q := fun q h => by rw [← hAe]; exact Or.inr h
  have hS : va_S A s.heap s.heap [] := va_S.rf
  have hP : va_P G.1 vwCl [(he, .inl (G.2.1, 200, .inl (fun _ => 0))), (cd, .inl (G.2.1, 1200, .inl (upd (fun _ => 0) 0 0))), (h0, .inr (6, [.int 0, .ref kd, .ref mo, .ref st, .int 0, .ref ro, .ref tp, .int 40, .ref cd, .ref sr, .int 0, .int 0, .int 0, .ref ir, .ref ih, .ref ss, .ref sq, .ref ce, .ref lw, .int 10, .int 6, .int 2, .int 0, .ref wo, .ref he, .int 0, .int 0, .int 1, .ref sk, .ref na, .ref kp, .int 0, .int 0, .int 0, .int 0, .ref gb, .ref go, .ref fa, .ref ga, .int 0, .int 0, .ref vo]))] s.heap := hP
  have hD : va_D A [(he, .inl (G.2.1, 200, .inl (fun _ => 0))), (cd, .inl (G.2.1, 1200, .inl (upd (fun _ => 0) 0 0))), (h0, .inr (6, [.int 0, .ref kd, .ref mo, .ref st, .int 0, .ref ro, .ref tp, .int 40, .ref cd, .ref sr, .int 0, .int 0, .int 0, .ref ir, .ref ih, .ref ss, .ref sq, .ref ce, .ref lw, .int 10, .int 6, .int 2, .int 0, .ref wo, .ref he, .int 0, .int 0, .int 1, .ref sk, .ref na, .ref kp, .int 0, .int 0, .int 0, .int 0, .ref gb, .ref go, .ref fa, .ref ga, .int 0, .int 0, .ref vo]))] := hD
  have hl := lv_entry ([.ref h0, .int 7]) (n := 3) (Nat.le_of_ble_eq_true rfl)
  rw [lg_entry_eq]
  generalize (lg_sl ([.ref h0, .int 7]) ++ List.replicate (3 - (lg_sl ([.ref h0, .int 7])).length) Slot.unset).toArray = ls at hl ⊢
  have hl : lv_has ls 3 [(0, .ref h0), (1, .int 7)] := hl
  have kf130 := hts (.fieldLink RX6 130 "PebbleInShoeModel" "heldMany" "I") (by decide +kernel)
  have hiX6 := (by decide +kernel : ∀ w ∈ wsX60, w ∈ wsX6_unwinds)
  refine lv_aload_n hx hb dX6_unwinds_0 rfl (lv_at hl 0 rfl) ?_
  refine va_get (D := G.1) (ci := 6) (v := .int 0) (C := RX6) (T := TX6) (N := 42) hx hb hts hiX6 hown hK hP 2 rfl rfl 25 (by decide) kf130 (fun _ h9 => h9) rfl dX6_unwinds_1 ?_
  refine lv_if_le (tgt := 79) hx hb dX6_unwinds_4 (by decide) (fun c_1 => ?_) (fun c_1 => ?_)
  rotate_left
  · exact absurd (by decide) c_1
  have hP9 := hP.sub (ws' := [(he, .inl (G.2.1, 200, .inl (fun _ => 0))), (cd, .inl (G.2.1, 1200, .inl (upd (fun _ => 0) 0 0))), (h0, .inr (6, [.int 0, .ref kd, .ref mo, .ref st, .int 0, .ref ro, .ref tp, .int 40, .ref cd, .ref sr, .int 0, .int 0, .int 0, .ref ir, .ref ih, .ref ss, .ref sq, .ref ce, .ref lw, .int 10, .int 6, .int 2, .int 0, .ref wo, .ref he, .int 0, .int 0, .int 1, .ref sk, .ref na, .ref kp, .int 0, .int 0, .int 0, .int 0, .ref gb, .ref go, .ref fa, .ref ga, .int 0, .int 0, .ref vo]))]) [0, 1, 2] rfl
  have hD9 := hD.sub (ws' := [(he, .inl (G.2.1, 200, .inl (fun _ => 0))), (cd, .inl (G.2.1, 1200, .inl (upd (fun _ => 0) 0 0))), (h0, .inr (6, [.int 0, .ref kd, .ref mo, .ref st, .int 0, .ref ro, .ref tp, .int 40, .ref cd, .ref sr, .int 0, .int 0, .int 0, .ref ir, .ref ih, .ref ss, .ref sq, .ref ce, .ref lw, .int 10, .int 6, .int 2, .int 0, .ref wo, .ref he, .int 0, .int 0, .int 1, .ref sk, .ref na, .ref kp, .int 0, .int 0, .int 0, .int 0, .ref gb, .ref go, .ref fa, .ref ga, .int 0, .int 0, .ref vo]))]) [0, 1, 2] (by decide) rfl
  have hpost : (fun (u : Unit) => match u with | _ => True) () := by first | rfl | trivial
  exact W.vret hx hb hr (fun t ht hW => ⟨⟨(), rfl, hpost, by rw [ht]; exact hP9, va_K.moved hW.alike hK, hD9⟩, hS.F ht⟩) hS.2.2 dX6_unwinds_79
abbrev q_X6_in_z16 (G : gG) (A : Nat → Prop) : Array Value → State → Outcome → State → Prop := va_Qi (fun (r : Int32) (u : Unit) => match u with | _ => r = 0) (fun (u : Unit) t => match u with | _ => va_P G.1 vwCl [] t.heap ∧ gK G t ∧ va_D A []) A
set_option maxHeartbeats 4000000 in
set_option maxRecDepth 100000 in
theorem c_X6_in_z16 (l : Launch) (G : gG) (sz : Nat) : Met l yX6_in wsX6_in ({ frames := 0, cells := 0, slots := 0, locals := 0 }) (gPre G [.int 45, .int 97, .int 122] [] sz) (q_X6_in_z16 G (va_A [] sz)) 0 0 (va_A [] sz) := by
  refine Met.ofW (cc := cX6_in) (maxL := 3) (ret := (some .boolean)) (by decide) rfl ?_
  intro p e s m args below meth c s₁ B hml hv
  obtain ⟨rfl, hsz, hP, hK, hD0⟩ := hv
  have hx := B.exec
  have hb := B.bytes
  have hr := B.returns
  have hts := atoms_spec (ws := wsX6_in) B.pre
  have hown : s.vm.findClass RX6 = some m.cls := findClass_of_methodNamed B.named
  have hlocks := B.notSynchronized
  subst hsz
  have hD := hD0.self (sz := s.heap.size)
  generalize hAe : va_A [] s.heap.size = A at hD ⊢
  have hA : ∀ q : Nat, s.heap.size ≤ q → A q := fun q h => by rw [← hAe]; exact Or.inr h
  have hS : va_S A s.heap s.heap [] := va_S.rf
  have hP : va_P G.1 vwCl [] s.heap := hP
  have hD : va_D A [] := hD
  have hl := lv_entry ([.int 45, .int 97, .int 122]) (n := 3) (Nat.le_of_ble_eq_true rfl)
  rw [lg_entry_eq]
  generalize (lg_sl ([.int 45, .int 97, .int 122]) ++ List.replicate (3 - (lg_sl ([.int 45, .int 97, .int 122])).length) Slot.unset).toArray = ls at hl ⊢
  have hl : lv_has ls 3 [(0, .int 45), (1, .int 97), (2, .int 122)] := hl
  refine lv_iload_n hx hb dX6_in_0 rfl (lv_at hl 0 rfl) ?_
  refine lv_iload_n hx hb dX6_in_1 rfl (lv_at hl 1 rfl) ?_
  refine lv_icmp_lt (tgt := 14) hx hb dX6_in_2 (by decide) (fun c_1 => ?_) (fun c_1 => ?_)
  rotate_left
  · exact absurd (by decide) c_1
  refine lv_iconst (v := 0) hx hb dX6_in_14 (by decide) ?_
  have hP9 := hP.sub (ws' := []) [] rfl
  have hD9 := hD.sub (ws' := []) [] (by decide) rfl
  have hpost : (fun (r : Int32) (u : Unit) => match u with | _ => r = 0) 0 () := by first | rfl | trivial
  exact W.zret (v := 0) hx hb hr (rfl) (fun t ht hW => ⟨⟨0, (), rfl, hpost, by rw [ht]; exact hP9, va_K.moved hW.alike hK, hD9⟩, hS.F ht⟩) hS.2.2 dX6_in_15
abbrev q_X6_in_z17 (G : gG) (A : Nat → Prop) : Array Value → State → Outcome → State → Prop := va_Qi (fun (r : Int32) (u : Unit) => match u with | _ => r = 0) (fun (u : Unit) t => match u with | _ => va_P G.1 vwCl [] t.heap ∧ gK G t ∧ va_D A []) A
set_option maxHeartbeats 4000000 in
set_option maxRecDepth 100000 in
theorem c_X6_in_z17 (l : Launch) (G : gG) (sz : Nat) : Met l yX6_in wsX6_in ({ frames := 0, cells := 0, slots := 0, locals := 0 }) (gPre G [.int 45, .int 48, .int 57] [] sz) (q_X6_in_z17 G (va_A [] sz)) 0 0 (va_A [] sz) := by
  refine Met.ofW (cc := cX6_in) (maxL := 3) (ret := (some .boolean)) (by decide) rfl ?_
  intro p e s m args below meth c s₁ B hml hv
  obtain ⟨rfl, hsz, hP, hK, hD0⟩ := hv
  have hx := B.exec
  have hb := B.bytes
  have hr := B.returns
  have hts := atoms_spec (ws := wsX6_in) B.pre
  have hown : s.vm.findClass RX6 = some m.cls := findClass_of_methodNamed B.named
  have hlocks := B.notSynchronized
  subst hsz
  have hD := hD0.self (sz := s.heap.size)
  generalize hAe : va_A [] s.heap.size = A at hD ⊢
  have hA : ∀ q : Nat, s.heap.size ≤ q → A q := fun q h => by rw [← hAe]; exact Or.inr h
  have hS : va_S A s.heap s.heap [] := va_S.rf
  have hP : va_P G.1 vwCl [] s.heap := hP
  have hD : va_D A [] := hD
  have hl := lv_entry ([.int 45, .int 48, .int 57]) (n := 3) (Nat.le_of_ble_eq_true rfl)
  rw [lg_entry_eq]
  generalize (lg_sl ([.int 45, .int 48, .int 57]) ++ List.replicate (3 - (lg_sl ([.int 45, .int 48, .int 57])).length) Slot.unset).toArray = ls at hl ⊢
  have hl : lv_has ls 3 [(0, .int 45), (1, .int 48), (2, .int 57)] := hl
  refine lv_iload_n hx hb dX6_in_0 rfl (lv_at hl 0 rfl) ?_
  refine lv_iload_n hx hb dX6_in_1 rfl (lv_at hl 1 rfl) ?_
  refine lv_icmp_lt (tgt := 14) hx hb dX6_in_2 (by decide) (fun c_1 => ?_) (fun c_1 => ?_)
  rotate_left
  · exact absurd (by decide) c_1
  refine lv_iconst (v := 0) hx hb dX6_in_14 (by decide) ?_
  have hP9 := hP.sub (ws' := []) [] rfl
  have hD9 := hD.sub (ws' := []) [] (by decide) rfl
  have hpost : (fun (r : Int32) (u : Unit) => match u with | _ => r = 0) 0 () := by first | rfl | trivial
  exact W.zret (v := 0) hx hb hr (rfl) (fun t ht hW => ⟨⟨0, (), rfl, hpost, by rw [ht]; exact hP9, va_K.moved hW.alike hK, hD9⟩, hS.F ht⟩) hS.2.2 dX6_in_15
abbrev q_X6_next_z15 (G : gG) (h0 tp wo kd mo st ro cd sr ir ih ss sq ce lw he sk na kp gb go fa ga vo : Nat) (A : Nat → Prop) : Array Value → State → Outcome → State → Prop := va_Qv (fun (u : Unit) => match u with | _ => True) (fun (u : Unit) t => match u with | _ => va_P G.1 vwCl [(tp, .inl (G.2.1, 160, .inl (gPf tB 40))), (wo, .inl (G.2.1, 96, .inl (gPf tW 96))), (h0, .inr (6, [.int 0, .ref kd, .ref mo, .ref st, .int 0, .ref ro, .ref tp, .int 40, .ref cd, .ref sr, .int 0, .int 0, .int 0, .ref ir, .ref ih, .ref ss, .ref sq, .ref ce, .ref lw, .int 12, .int 11, .int 45, .int 0, .ref wo, .ref he, .int 0, .int 0, .int 1, .ref sk, .ref na, .ref kp, .int 0, .int 0, .int 0, .int 0, .ref gb, .ref go, .ref fa, .ref ga, .int 0, .int 0, .ref vo]))] t.heap ∧ gK G t ∧ va_D A [(tp, .inl (G.2.1, 160, .inl (gPf tB 40))), (wo, .inl (G.2.1, 96, .inl (gPf tW 96))), (h0, .inr (6, [.int 0, .ref kd, .ref mo, .ref st, .int 0, .ref ro, .ref tp, .int 40, .ref cd, .ref sr, .int 0, .int 0, .int 0, .ref ir, .ref ih, .ref ss, .ref sq, .ref ce, .ref lw, .int 12, .int 11, .int 45, .int 0, .ref wo, .ref he, .int 0, .int 0, .int 1, .ref sk, .ref na, .ref kp, .int 0, .int 0, .int 0, .int 0, .ref gb, .ref go, .ref fa, .ref ga, .int 0, .int 0, .ref vo]))]) A
set_option maxHeartbeats 4000000 in
set_option maxRecDepth 100000 in
theorem c_X6_next_z15 (l : Launch) (G : gG) (h0 tp wo kd mo st ro cd sr ir ih ss sq ce lw he sk na kp gb go fa ga vo : Nat) (sz : Nat) : Met l yX6_next wsX6_next ({ frames := 1, cells := 0, slots := 0, locals := 22 }) (gPre G [.ref h0] [(tp, .inl (G.2.1, 160, .inl (gPf tB 40))), (wo, .inl (G.2.1, 96, .inl (gPf tW 96))), (h0, .inr (6, [.int 0, .ref kd, .ref mo, .ref st, .int 0, .ref ro, .ref tp, .int 40, .ref cd, .ref sr, .int 0, .int 0, .int 0, .ref ir, .ref ih, .ref ss, .ref sq, .ref ce, .ref lw, .int 10, .int 6, .int 2, .int 0, .ref wo, .ref he, .int 0, .int 0, .int 1, .ref sk, .ref na, .ref kp, .int 0, .int 0, .int 0, .int 0, .ref gb, .ref go, .ref fa, .ref ga, .int 0, .int 0, .ref vo]))] sz) (q_X6_next_z15 G h0 tp wo kd mo st ro cd sr ir ih ss sq ce lw he sk na kp gb go fa ga vo (va_A [(tp, .inl (G.2.1, 160, .inl (gPf tB 40))), (wo, .inl (G.2.1, 96, .inl (gPf tW 96))), (h0, .inr (6, [.int 0, .ref kd, .ref mo, .ref st, .int 0, .ref ro, .ref tp, .int 40, .ref cd, .ref sr, .int 0, .int 0, .int 0, .ref ir, .ref ih, .ref ss, .ref sq, .ref ce, .ref lw, .int 10, .int 6, .int 2, .int 0, .ref wo, .ref he, .int 0, .int 0, .int 1, .ref sk, .ref na, .ref kp, .int 0, .int 0, .int 0, .int 0, .ref gb, .ref go, .ref fa, .ref ga, .int 0, .int 0, .ref vo]))] sz)) 0 0 (va_A [(tp, .inl (G.2.1, 160, .inl (gPf tB 40))), (wo, .inl (G.2.1, 96, .inl (gPf tW 96))), (h0, .inr (6, [.int 0, .ref kd, .ref mo, .ref st, .int 0, .ref ro, .ref tp, .int 40, .ref cd, .ref sr, .int 0, .int 0, .int 0, .ref ir, .ref ih, .ref ss, .ref sq, .ref ce, .ref lw, .int 10, .int 6, .int 2, .int 0, .ref wo, .ref he, .int 0, .int 0, .int 1, .ref sk, .ref na, .ref kp, .int 0, .int 0, .int 0, .int 0, .ref gb, .ref go, .ref fa, .ref ga, .int 0, .int 0, .ref vo]))] sz) := by
  refine Met.ofW (cc := cX6_next) (maxL := 3) (ret := none) (by decide) rfl ?_
  intro p e s m args below meth c s₁ B hml hv
  obtain ⟨rfl, hsz, hP, hK, hD0⟩ := hv
  have hx := B.exec
  have hb := B.bytes
  have hr := B.returns
  have hts := atoms_spec (ws := wsX6_next) B.pre
  have hown : s.vm.findClass RX6 = some m.cls := findClass_of_methodNamed B.named
  have hlocks := B.notSynchronized
  subst hsz
  have hD := hD0.self (sz := s.heap.size)
  generalize hAe : va_A [(tp, .inl (G.2.1, 160, .inl (gPf tB 40))), (wo, .inl (G.2.1, 96, .inl (gPf tW 96))), (h0, .inr (6, [.int 0, .ref kd, .ref mo, .ref st, .int 0, .ref ro, .ref tp, .int 40, .ref cd, .ref sr, .int 0, .int 0, .int 0, .ref ir, .ref ih, .ref ss, .ref sq, .ref ce, .ref lw, .int 10, .int 6, .int 2, .int 0, .ref wo, .ref he, .int 0, .int 0, .int 1, .ref sk, .ref na, .ref kp, .int 0, .int 0, .int 0, .int 0, .ref gb, .ref go, .ref fa, .ref ga, .int 0, .int 0, .ref vo]))] s.heap.size = A at hD ⊢
  have hA : ∀ q : Nat, s.heap.size ≤ q → A q := fun q h => by rw [← hAe]; exact Or.inr h
  have hS : va_S A s.heap s.heap [] := va_S.rf
  have hP : va_P G.1 vwCl [(tp, .inl (G.2.1, 160, .inl (gPf tB 40))), (wo, .inl (G.2.1, 96, .inl (gPf tW 96))), (h0, .inr (6, [.int 0, .ref kd, .ref mo, .ref st, .int 0, .ref ro, .ref tp, .int 40, .ref cd, .ref sr, .int 0, .int 0, .int 0, .ref ir, .ref ih, .ref ss, .ref sq, .ref ce, .ref lw, .int 10, .int 6, .int 2, .int 0, .ref wo, .ref he, .int 0, .int 0, .int 1, .ref sk, .ref na, .ref kp, .int 0, .int 0, .int 0, .int 0, .ref gb, .ref go, .ref fa, .ref ga, .int 0, .int 0, .ref vo]))] s.heap := hP
  have hD : va_D A [(tp, .inl (G.2.1, 160, .inl (gPf tB 40))), (wo, .inl (G.2.1, 96, .inl (gPf tW 96))), (h0, .inr (6, [.int 0, .ref kd, .ref mo, .ref st, .int 0, .ref ro, .ref tp, .int 40, .ref cd, .ref sr, .int 0, .int 0, .int 0, .ref ir, .ref ih, .ref ss, .ref sq, .ref ce, .ref lw, .int 10, .int 6, .int 2, .int 0, .ref wo, .ref he, .int 0, .int 0, .int 1, .ref sk, .ref na, .ref kp, .int 0, .int 0, .int 0, .int 0, .ref gb, .ref go, .ref fa, .ref ga, .int 0, .int 0, .ref vo]))] := hD
  have hl := lv_entry ([.ref h0]) (n := 3) (Nat.le_of_ble_eq_true rfl)
  rw [lg_entry_eq]
  generalize (lg_sl ([.ref h0]) ++ List.replicate (3 - (lg_sl ([.ref h0])).length) Slot.unset).toArray = ls at hl ⊢
  have hl : lv_has ls 3 [(0, .ref h0)] := hl
  have kf111 := hts (.fieldLink RX6 111 "PebbleInShoeModel" "at" "I") (by decide +kernel)
  have hiX6 := (by decide +kernel : ∀ w ∈ wsX60, w ∈ wsX6_next)
  have kf80 := hts (.fieldLink RX6 80 "PebbleInShoeModel" "taped" "I") (by decide +kernel)
  have kf22 := hts (.fieldLink RX6 22 "PebbleInShoeModel" "tape" "[I") (by decide +kernel)
  have kf114 := hts (.fieldLink RX6 114 "PebbleInShoeModel" "begun" "I") (by decide +kernel)
  have kf117 := hts (.fieldLink RX6 117 "PebbleInShoeModel" "token" "I") (by decide +kernel)
  have kf120 := hts (.fieldLink RX6 120 "PebbleInShoeModel" "value" "I") (by decide +kernel)
  refine lv_aload_n hx hb dX6_next_0 rfl (lv_at hl 0 rfl) ?_
  refine va_get (D := G.1) (ci := 6) (v := .int 10) (C := RX6) (T := TX6) (N := 42) hx hb hts hiX6 hown hK hP 2 rfl rfl 19 (by decide) kf111 (fun _ h9 => h9) rfl dX6_next_1 ?_
  refine lv_aload_n hx hb dX6_next_4 rfl (lv_at hl 0 rfl) ?_
  refine va_get (D := G.1) (ci := 6) (v := .int 40) (C := RX6) (T := TX6) (N := 42) hx hb hts hiX6 hown hK hP 2 rfl rfl 7 (by decide) kf80 (fun _ h9 => h9) rfl dX6_next_5 ?_
  refine lv_icmp_ge (tgt := 52) hx hb dX6_next_8 (by decide) (fun c_1 => ?_) (fun c_1 => ?_)
  · exact absurd c_1 (by decide)
  refine lv_aload_n hx hb dX6_next_11 rfl (lv_at hl 0 rfl) ?_
  refine va_get (D := G.1) (ci := 6) (v := .ref tp) (C := RX6) (T := TX6) (N := 42) hx hb hts hiX6 hown hK hP 2 rfl rfl 6 (by decide) kf22 (fun _ h9 => h9) rfl dX6_next_12 ?_
  refine lv_aload_n hx hb dX6_next_15 rfl (lv_at hl 0 rfl) ?_
  refine va_get (D := G.1) (ci := 6) (v := .int 10) (C := RX6) (T := TX6) (N := 42) hx hb hts hiX6 hown hK hP 2 rfl rfl 19 (by decide) kf111 (fun _ h9 => h9) rfl dX6_next_16 ?_
  refine va_iald (D := G.1) hx hb hK hP 0 0 rfl rfl (i := 10) (gIn (by decide)) dX6_next_19 ?_
  refine lv_topi (fun v_2 ev_2 => ?_)
  have ev_2 : v_2 = 32 := ev_2.trans (by decide)
  subst ev_2
  refine lv_bipush (v := 32) hx hb dX6_next_20 (by decide) ?_
  refine lv_icmp_eq (tgt := 39) hx hb dX6_next_22 (by decide) (fun c_3 => ?_) (fun c_3 => ?_)
  rotate_left
  · exact absurd (by decide) c_3
  refine lv_aload_n hx hb dX6_next_39 rfl (lv_at hl 0 rfl) ?_
  refine lv_dup hx hb dX6_next_40 rfl ?_
  refine va_get (D := G.1) (ci := 6) (v := .int 10) (C := RX6) (T := TX6) (N := 42) hx hb hts hiX6 hown hK hP 2 rfl rfl 19 (by decide) kf111 (fun _ h9 => h9) rfl dX6_next_41 ?_
  refine lv_iconst (v := 1) hx hb dX6_next_44 (by decide) ?_
  refine lv_iadd hx hb dX6_next_45 ?_
  refine lv_topi (fun v_4 ev_4 => ?_)
  have ev_4 : v_4 = 11 := ev_4.trans (by decide)
  subst ev_4
  refine va_put (D := G.1) (ci := 6) (v := .int 11) (ty := .int) (C := RX6) (T := TX6) (N := 42) hx hb hts hiX6 tyX6 tyX6_ok nmX6 hown hK hP hD hS 2 rfl rfl 19 (by decide) kf111 (fun _ h9 => h9) rfl (by decide +kernel) rfl rfl (Nat.le_of_ble_eq_true rfl) dX6_next_46 (fun H locs hP hD hS => ?_)
  have hP : va_P G.1 vwCl [(tp, .inl (G.2.1, 160, .inl (gPf tB 40))), (wo, .inl (G.2.1, 96, .inl (gPf tW 96))), (h0, .inr (6, [.int 0, .ref kd, .ref mo, .ref st, .int 0, .ref ro, .ref tp, .int 40, .ref cd, .ref sr, .int 0, .int 0, .int 0, .ref ir, .ref ih, .ref ss, .ref sq, .ref ce, .ref lw, .int 11, .int 6, .int 2, .int 0, .ref wo, .ref he, .int 0, .int 0, .int 1, .ref sk, .ref na, .ref kp, .int 0, .int 0, .int 0, .int 0, .ref gb, .ref go, .ref fa, .ref ga, .int 0, .int 0, .ref vo]))] H := hP
  have hD : va_D A [(tp, .inl (G.2.1, 160, .inl (gPf tB 40))), (wo, .inl (G.2.1, 96, .inl (gPf tW 96))), (h0, .inr (6, [.int 0, .ref kd, .ref mo, .ref st, .int 0, .ref ro, .ref tp, .int 40, .ref cd, .ref sr, .int 0, .int 0, .int 0, .ref ir, .ref ih, .ref ss, .ref sq, .ref ce, .ref lw, .int 11, .int 6, .int 2, .int 0, .ref wo, .ref he, .int 0, .int 0, .int 1, .ref sk, .ref na, .ref kp, .int 0, .int 0, .int 0, .int 0, .ref gb, .ref go, .ref fa, .ref ga, .int 0, .int 0, .ref vo]))] := hD
  refine lv_goto (tgt := 0) hx hb dX6_next_49 (by decide) ?_
  refine lv_aload_n hx hb dX6_next_0 rfl (lv_at hl 0 rfl) ?_
  refine va_get (D := G.1) (ci := 6) (v := .int 11) (C := RX6) (T := TX6) (N := 42) hx hb hts hiX6 hown hK hP 2 rfl rfl 19 (by decide) kf111 (fun _ h9 => h9) rfl dX6_next_1 ?_
  refine lv_aload_n hx hb dX6_next_4 rfl (lv_at hl 0 rfl) ?_
  refine va_get (D := G.1) (ci := 6) (v := .int 40) (C := RX6) (T := TX6) (N := 42) hx hb hts hiX6 hown hK hP 2 rfl rfl 7 (by decide) kf80 (fun _ h9 => h9) rfl dX6_next_5 ?_
  refine lv_icmp_ge (tgt := 52) hx hb dX6_next_8 (by decide) (fun c_5 => ?_) (fun c_5 => ?_)
  · exact absurd c_5 (by decide)
  refine lv_aload_n hx hb dX6_next_11 rfl (lv_at hl 0 rfl) ?_
  refine va_get (D := G.1) (ci := 6) (v := .ref tp) (C := RX6) (T := TX6) (N := 42) hx hb hts hiX6 hown hK hP 2 rfl rfl 6 (by decide) kf22 (fun _ h9 => h9) rfl dX6_next_12 ?_
  refine lv_aload_n hx hb dX6_next_15 rfl (lv_at hl 0 rfl) ?_
  refine va_get (D := G.1) (ci := 6) (v := .int 11) (C := RX6) (T := TX6) (N := 42) hx hb hts hiX6 hown hK hP 2 rfl rfl 19 (by decide) kf111 (fun _ h9 => h9) rfl dX6_next_16 ?_
  refine va_iald (D := G.1) hx hb hK hP 0 0 rfl rfl (i := 11) (gIn (by decide)) dX6_next_19 ?_
  refine lv_topi (fun v_6 ev_6 => ?_)
  have ev_6 : v_6 = 45 := ev_6.trans (by decide)
  subst ev_6
  refine lv_bipush (v := 32) hx hb dX6_next_20 (by decide) ?_
  refine lv_icmp_eq (tgt := 39) hx hb dX6_next_22 (by decide) (fun c_7 => ?_) (fun c_7 => ?_)
  · exact absurd c_7 (by decide)
  refine lv_aload_n hx hb dX6_next_25 rfl (lv_at hl 0 rfl) ?_
  refine va_get (D := G.1) (ci := 6) (v := .ref tp) (C := RX6) (T := TX6) (N := 42) hx hb hts hiX6 hown hK hP 2 rfl rfl 6 (by decide) kf22 (fun _ h9 => h9) rfl dX6_next_26 ?_
  refine lv_aload_n hx hb dX6_next_29 rfl (lv_at hl 0 rfl) ?_
  refine va_get (D := G.1) (ci := 6) (v := .int 11) (C := RX6) (T := TX6) (N := 42) hx hb hts hiX6 hown hK hP 2 rfl rfl 19 (by decide) kf111 (fun _ h9 => h9) rfl dX6_next_30 ?_
  refine va_iald (D := G.1) hx hb hK hP 0 0 rfl rfl (i := 11) (gIn (by decide)) dX6_next_33 ?_
  refine lv_topi (fun v_8 ev_8 => ?_)
  have ev_8 : v_8 = 45 := ev_8.trans (by decide)
  subst ev_8
  refine lv_bipush (v := 10) hx hb dX6_next_34 (by decide) ?_
  refine lv_icmp_ne (tgt := 52) hx hb dX6_next_36 (by decide) (fun c_9 => ?_) (fun c_9 => ?_)
  rotate_left
  · exact absurd c_9 (by decide)
  refine lv_aload_n hx hb dX6_next_52 rfl (lv_at hl 0 rfl) ?_
  refine lv_aload_n hx hb dX6_next_53 rfl (lv_at hl 0 rfl) ?_
  refine va_get (D := G.1) (ci := 6) (v := .int 11) (C := RX6) (T := TX6) (N := 42) hx hb hts hiX6 hown hK hP 2 rfl rfl 19 (by decide) kf111 (fun _ h9 => h9) rfl dX6_next_54 ?_
  refine va_put (D := G.1) (ci := 6) (v := .int 11) (ty := .int) (C := RX6) (T := TX6) (N := 42) hx hb hts hiX6 tyX6 tyX6_ok nmX6 hown hK hP hD hS 2 rfl rfl 20 (by decide) kf114 (fun _ h9 => h9) rfl (by decide +kernel) rfl rfl (Nat.le_of_ble_eq_true rfl) dX6_next_57 (fun H locs hP hD hS => ?_)
  have hP : va_P G.1 vwCl [(tp, .inl (G.2.1, 160, .inl (gPf tB 40))), (wo, .inl (G.2.1, 96, .inl (gPf tW 96))), (h0, .inr (6, [.int 0, .ref kd, .ref mo, .ref st, .int 0, .ref ro, .ref tp, .int 40, .ref cd, .ref sr, .int 0, .int 0, .int 0, .ref ir, .ref ih, .ref ss, .ref sq, .ref ce, .ref lw, .int 11, .int 11, .int 2, .int 0, .ref wo, .ref he, .int 0, .int 0, .int 1, .ref sk, .ref na, .ref kp, .int 0, .int 0, .int 0, .int 0, .ref gb, .ref go, .ref fa, .ref ga, .int 0, .int 0, .ref vo]))] H := hP
  have hD : va_D A [(tp, .inl (G.2.1, 160, .inl (gPf tB 40))), (wo, .inl (G.2.1, 96, .inl (gPf tW 96))), (h0, .inr (6, [.int 0, .ref kd, .ref mo, .ref st, .int 0, .ref ro, .ref tp, .int 40, .ref cd, .ref sr, .int 0, .int 0, .int 0, .ref ir, .ref ih, .ref ss, .ref sq, .ref ce, .ref lw, .int 11, .int 11, .int 2, .int 0, .ref wo, .ref he, .int 0, .int 0, .int 1, .ref sk, .ref na, .ref kp, .int 0, .int 0, .int 0, .int 0, .ref gb, .ref go, .ref fa, .ref ga, .int 0, .int 0, .ref vo]))] := hD
  refine lv_aload_n hx hb dX6_next_60 rfl (lv_at hl 0 rfl) ?_
  refine lv_iconst (v := 0) hx hb dX6_next_61 (by decide) ?_
  refine va_put (D := G.1) (ci := 6) (v := .int 0) (ty := .int) (C := RX6) (T := TX6) (N := 42) hx hb hts hiX6 tyX6 tyX6_ok nmX6 hown hK hP hD hS 2 rfl rfl 21 (by decide) kf117 (fun _ h9 => h9) rfl (by decide +kernel) rfl rfl (Nat.le_of_ble_eq_true rfl) dX6_next_62 (fun H locs hP hD hS => ?_)
  have hP : va_P G.1 vwCl [(tp, .inl (G.2.1, 160, .inl (gPf tB 40))), (wo, .inl (G.2.1, 96, .inl (gPf tW 96))), (h0, .inr (6, [.int 0, .ref kd, .ref mo, .ref st, .int 0, .ref ro, .ref tp, .int 40, .ref cd, .ref sr, .int 0, .int 0, .int 0, .ref ir, .ref ih, .ref ss, .ref sq, .ref ce, .ref lw, .int 11, .int 11, .int 0, .int 0, .ref wo, .ref he, .int 0, .int 0, .int 1, .ref sk, .ref na, .ref kp, .int 0, .int 0, .int 0, .int 0, .ref gb, .ref go, .ref fa, .ref ga, .int 0, .int 0, .ref vo]))] H := hP
  have hD : va_D A [(tp, .inl (G.2.1, 160, .inl (gPf tB 40))), (wo, .inl (G.2.1, 96, .inl (gPf tW 96))), (h0, .inr (6, [.int 0, .ref kd, .ref mo, .ref st, .int 0, .ref ro, .ref tp, .int 40, .ref cd, .ref sr, .int 0, .int 0, .int 0, .ref ir, .ref ih, .ref ss, .ref sq, .ref ce, .ref lw, .int 11, .int 11, .int 0, .int 0, .ref wo, .ref he, .int 0, .int 0, .int 1, .ref sk, .ref na, .ref kp, .int 0, .int 0, .int 0, .int 0, .ref gb, .ref go, .ref fa, .ref ga, .int 0, .int 0, .ref vo]))] := hD
  refine lv_aload_n hx hb dX6_next_65 rfl (lv_at hl 0 rfl) ?_
  refine lv_iconst (v := 0) hx hb dX6_next_66 (by decide) ?_
  refine va_put (D := G.1) (ci := 6) (v := .int 0) (ty := .int) (C := RX6) (T := TX6) (N := 42) hx hb hts hiX6 tyX6 tyX6_ok nmX6 hown hK hP hD hS 2 rfl rfl 22 (by decide) kf120 (fun _ h9 => h9) rfl (by decide +kernel) rfl rfl (Nat.le_of_ble_eq_true rfl) dX6_next_67 (fun H locs hP hD hS => ?_)
  have hP : va_P G.1 vwCl [(tp, .inl (G.2.1, 160, .inl (gPf tB 40))), (wo, .inl (G.2.1, 96, .inl (gPf tW 96))), (h0, .inr (6, [.int 0, .ref kd, .ref mo, .ref st, .int 0, .ref ro, .ref tp, .int 40, .ref cd, .ref sr, .int 0, .int 0, .int 0, .ref ir, .ref ih, .ref ss, .ref sq, .ref ce, .ref lw, .int 11, .int 11, .int 0, .int 0, .ref wo, .ref he, .int 0, .int 0, .int 1, .ref sk, .ref na, .ref kp, .int 0, .int 0, .int 0, .int 0, .ref gb, .ref go, .ref fa, .ref ga, .int 0, .int 0, .ref vo]))] H := hP
  have hD : va_D A [(tp, .inl (G.2.1, 160, .inl (gPf tB 40))), (wo, .inl (G.2.1, 96, .inl (gPf tW 96))), (h0, .inr (6, [.int 0, .ref kd, .ref mo, .ref st, .int 0, .ref ro, .ref tp, .int 40, .ref cd, .ref sr, .int 0, .int 0, .int 0, .ref ir, .ref ih, .ref ss, .ref sq, .ref ce, .ref lw, .int 11, .int 11, .int 0, .int 0, .ref wo, .ref he, .int 0, .int 0, .int 1, .ref sk, .ref na, .ref kp, .int 0, .int 0, .int 0, .int 0, .ref gb, .ref go, .ref fa, .ref ga, .int 0, .int 0, .ref vo]))] := hD
  refine lv_aload_n hx hb dX6_next_70 rfl (lv_at hl 0 rfl) ?_
  refine va_get (D := G.1) (ci := 6) (v := .int 11) (C := RX6) (T := TX6) (N := 42) hx hb hts hiX6 hown hK hP 2 rfl rfl 19 (by decide) kf111 (fun _ h9 => h9) rfl dX6_next_71 ?_
  refine lv_aload_n hx hb dX6_next_74 rfl (lv_at hl 0 rfl) ?_
  refine va_get (D := G.1) (ci := 6) (v := .int 40) (C := RX6) (T := TX6) (N := 42) hx hb hts hiX6 hown hK hP 2 rfl rfl 7 (by decide) kf80 (fun _ h9 => h9) rfl dX6_next_75 ?_
  refine lv_icmp_ne (tgt := 82) hx hb dX6_next_78 (by decide) (fun c_10 => ?_) (fun c_10 => ?_)
  rotate_left
  · exact absurd c_10 (by decide)
  refine lv_aload_n hx hb dX6_next_82 rfl (lv_at hl 0 rfl) ?_
  refine va_get (D := G.1) (ci := 6) (v := .ref tp) (C := RX6) (T := TX6) (N := 42) hx hb hts hiX6 hown hK hP 2 rfl rfl 6 (by decide) kf22 (fun _ h9 => h9) rfl dX6_next_83 ?_
  refine lv_aload_n hx hb dX6_next_86 rfl (lv_at hl 0 rfl) ?_
  refine va_get (D := G.1) (ci := 6) (v := .int 11) (C := RX6) (T := TX6) (N := 42) hx hb hts hiX6 hown hK hP 2 rfl rfl 19 (by decide) kf111 (fun _ h9 => h9) rfl dX6_next_87 ?_
  refine va_iald (D := G.1) hx hb hK hP 0 0 rfl rfl (i := 11) (gIn (by decide)) dX6_next_90 ?_
  refine lv_topi (fun v_11 ev_11 => ?_)
  have ev_11 : v_11 = 45 := ev_11.trans (by decide)
  subst ev_11
  refine lv_istore_n (lv' := [(1, .int 45), (0, .ref h0)]) hx hb dX6_next_91 rfl hl (by decide) rfl (fun ls hl => ?_)
  refine lv_iload_n hx hb dX6_next_92 rfl (lv_at hl 0 rfl) ?_
  refine lv_bipush (v := 97) hx hb dX6_next_93 (by decide) ?_
  refine lv_bipush (v := 122) hx hb dX6_next_95 (by decide) ?_
  have hPc : va_P G.1 vwCl [] H := hP.sub [] rfl
  have hDc : va_D A [] := hD.sub [] (by decide) rfl
  have hFc := va_free (wc := []) hD hS hA [] rfl
  refine va_calli (va_runS (As := [.int 45, .int 97, .int 122]) (rest := []) ⟨hx, hb, hml, hown, hts⟩ (c_X6_in_z16 l G H.size) (va_cwS 3 hts gX6_next_X6_in rfl rfl rfl (by decide +kernel) ⟨Nat.le_of_ble_eq_true rfl, Nat.le_of_ble_eq_true rfl⟩) ⟨gPre_blind, fun U hU hW => gPre_of hU hW hK hPc hDc⟩ rfl rfl hl.1 rfl (lv_room (Nat.le_of_ble_eq_true rfl)) dX6_next_97 ⟨Nat.le_of_ble_eq_true rfl, Nat.le_of_ble_eq_true rfl⟩) hS (fun q _ h => hFc q h) hFc (fun r_12 u t H locs ht hvm w_13 hB hz1 hk1 hS => ?_)
  obtain ⟨hP1, hK1, hD1⟩ := hB
  rw [ht] at hP1
  have hP1 : va_P G.1 vwCl [] H := hP1
  have hD1 : va_D (va_A [] _) [] := hD1
  have w_13 : r_12 = 0 := w_13
  obtain ⟨hP, hD⟩ := va_join (wr := [(tp, .inl (G.2.1, 160, .inl (gPf tB 40))), (wo, .inl (G.2.1, 96, .inl (gPf tW 96))), (h0, .inr (6, [.int 0, .ref kd, .ref mo, .ref st, .int 0, .ref ro, .ref tp, .int 40, .ref cd, .ref sr, .int 0, .int 0, .int 0, .ref ir, .ref ih, .ref ss, .ref sq, .ref ce, .ref lw, .int 11, .int 11, .int 0, .int 0, .ref wo, .ref he, .int 0, .int 0, .int 1, .ref sk, .ref na, .ref kp, .int 0, .int 0, .int 0, .int 0, .ref gb, .ref go, .ref fa, .ref ga, .int 0, .int 0, .ref vo]))]) (w1 := []) hP hD [] [0, 1, 2] rfl rfl (by decide) (by decide) hk1 hFc hP1 hD1
  have hP : va_P G.1 vwCl [(tp, .inl (G.2.1, 160, .inl (gPf tB 40))), (wo, .inl (G.2.1, 96, .inl (gPf tW 96))), (h0, .inr (6, [.int 0, .ref kd, .ref mo, .ref st, .int 0, .ref ro, .ref tp, .int 40, .ref cd, .ref sr, .int 0, .int 0, .int 0, .ref ir, .ref ih, .ref ss, .ref sq, .ref ce, .ref lw, .int 11, .int 11, .int 0, .int 0, .ref wo, .ref he, .int 0, .int 0, .int 1, .ref sk, .ref na, .ref kp, .int 0, .int 0, .int 0, .int 0, .ref gb, .ref go, .ref fa, .ref ga, .int 0, .int 0, .ref vo]))] H := hP
  have hD : va_D A [(tp, .inl (G.2.1, 160, .inl (gPf tB 40))), (wo, .inl (G.2.1, 96, .inl (gPf tW 96))), (h0, .inr (6, [.int 0, .ref kd, .ref mo, .ref st, .int 0, .ref ro, .ref tp, .int 40, .ref cd, .ref sr, .int 0, .int 0, .int 0, .ref ir, .ref ih, .ref ss, .ref sq, .ref ce, .ref lw, .int 11, .int 11, .int 0, .int 0, .ref wo, .ref he, .int 0, .int 0, .int 1, .ref sk, .ref na, .ref kp, .int 0, .int 0, .int 0, .int 0, .ref gb, .ref go, .ref fa, .ref ga, .int 0, .int 0, .ref vo]))] := hD
  have w_13 : r_12 = 0 := w_13
  subst w_13
  refine lv_if_eq (tgt := 217) hx hb dX6_next_100 (by decide) (fun c_14 => ?_) (fun c_14 => ?_)
  rotate_left
  · exact absurd (by decide) c_14
  refine lv_iload_n hx hb dX6_next_217 rfl (lv_at hl 0 rfl) ?_
  refine lv_bipush (v := 48) hx hb dX6_next_218 (by decide) ?_
  refine lv_bipush (v := 57) hx hb dX6_next_220 (by decide) ?_
  have hPc : va_P G.1 vwCl [] H := hP.sub [] rfl
  have hDc : va_D A [] := hD.sub [] (by decide) rfl
  have hFc := va_free (wc := []) hD hS hA [] rfl
  refine va_calli (va_runS (As := [.int 45, .int 48, .int 57]) (rest := []) ⟨hx, hb, hml, hown, hts⟩ (c_X6_in_z17 l G H.size) (va_cwS 3 hts gX6_next_X6_in rfl rfl rfl (by decide +kernel) ⟨Nat.le_of_ble_eq_true rfl, Nat.le_of_ble_eq_true rfl⟩) ⟨gPre_blind, fun U hU hW => gPre_of hU hW hK hPc hDc⟩ rfl rfl hl.1 rfl (lv_room (Nat.le_of_ble_eq_true rfl)) dX6_next_222 ⟨Nat.le_of_ble_eq_true rfl, Nat.le_of_ble_eq_true rfl⟩) hS (fun q _ h => hFc q h) hFc (fun r_15 u t H locs ht hvm w_16 hB hz1 hk1 hS => ?_)
  obtain ⟨hP1, hK1, hD1⟩ := hB
  rw [ht] at hP1
  have hP1 : va_P G.1 vwCl [] H := hP1
  have hD1 : va_D (va_A [] _) [] := hD1
  have w_16 : r_15 = 0 := w_16
  obtain ⟨hP, hD⟩ := va_join (wr := [(tp, .inl (G.2.1, 160, .inl (gPf tB 40))), (wo, .inl (G.2.1, 96, .inl (gPf tW 96))), (h0, .inr (6, [.int 0, .ref kd, .ref mo, .ref st, .int 0, .ref ro, .ref tp, .int 40, .ref cd, .ref sr, .int 0, .int 0, .int 0, .ref ir, .ref ih, .ref ss, .ref sq, .ref ce, .ref lw, .int 11, .int 11, .int 0, .int 0, .ref wo, .ref he, .int 0, .int 0, .int 1, .ref sk, .ref na, .ref kp, .int 0, .int 0, .int 0, .int 0, .ref gb, .ref go, .ref fa, .ref ga, .int 0, .int 0, .ref vo]))]) (w1 := []) hP hD [] [0, 1, 2] rfl rfl (by decide) (by decide) hk1 hFc hP1 hD1
  have hP : va_P G.1 vwCl [(tp, .inl (G.2.1, 160, .inl (gPf tB 40))), (wo, .inl (G.2.1, 96, .inl (gPf tW 96))), (h0, .inr (6, [.int 0, .ref kd, .ref mo, .ref st, .int 0, .ref ro, .ref tp, .int 40, .ref cd, .ref sr, .int 0, .int 0, .int 0, .ref ir, .ref ih, .ref ss, .ref sq, .ref ce, .ref lw, .int 11, .int 11, .int 0, .int 0, .ref wo, .ref he, .int 0, .int 0, .int 1, .ref sk, .ref na, .ref kp, .int 0, .int 0, .int 0, .int 0, .ref gb, .ref go, .ref fa, .ref ga, .int 0, .int 0, .ref vo]))] H := hP
  have hD : va_D A [(tp, .inl (G.2.1, 160, .inl (gPf tB 40))), (wo, .inl (G.2.1, 96, .inl (gPf tW 96))), (h0, .inr (6, [.int 0, .ref kd, .ref mo, .ref st, .int 0, .ref ro, .ref tp, .int 40, .ref cd, .ref sr, .int 0, .int 0, .int 0, .ref ir, .ref ih, .ref ss, .ref sq, .ref ce, .ref lw, .int 11, .int 11, .int 0, .int 0, .ref wo, .ref he, .int 0, .int 0, .int 1, .ref sk, .ref na, .ref kp, .int 0, .int 0, .int 0, .int 0, .ref gb, .ref go, .ref fa, .ref ga, .int 0, .int 0, .ref vo]))] := hD
  have w_16 : r_15 = 0 := w_16
  subst w_16
  refine lv_if_eq (tgt := 326) hx hb dX6_next_225 (by decide) (fun c_17 => ?_) (fun c_17 => ?_)
  rotate_left
  · exact absurd (by decide) c_17
  refine lv_iload_n hx hb dX6_next_326 rfl (lv_at hl 0 rfl) ?_
  refine lv_bipush (v := 40) hx hb dX6_next_327 (by decide) ?_
  refine lv_icmp_eq (tgt := 374) hx hb dX6_next_329 (by decide) (fun c_18 => ?_) (fun c_18 => ?_)
  · exact absurd c_18 (by decide)
  refine lv_iload_n hx hb dX6_next_332 rfl (lv_at hl 0 rfl) ?_
  refine lv_bipush (v := 41) hx hb dX6_next_333 (by decide) ?_
  refine lv_icmp_eq (tgt := 374) hx hb dX6_next_335 (by decide) (fun c_19 => ?_) (fun c_19 => ?_)
  · exact absurd c_19 (by decide)
  refine lv_iload_n hx hb dX6_next_338 rfl (lv_at hl 0 rfl) ?_
  refine lv_bipush (v := 59) hx hb dX6_next_339 (by decide) ?_
  refine lv_icmp_eq (tgt := 374) hx hb dX6_next_341 (by decide) (fun c_20 => ?_) (fun c_20 => ?_)
  · exact absurd c_20 (by decide)
  refine lv_iload_n hx hb dX6_next_344 rfl (lv_at hl 0 rfl) ?_
  refine lv_bipush (v := 43) hx hb dX6_next_345 (by decide) ?_
  refine lv_icmp_eq (tgt := 374) hx hb dX6_next_347 (by decide) (fun c_21 => ?_) (fun c_21 => ?_)
  · exact absurd c_21 (by decide)
  refine lv_iload_n hx hb dX6_next_350 rfl (lv_at hl 0 rfl) ?_
  refine lv_bipush (v := 45) hx hb dX6_next_351 (by decide) ?_
  refine lv_icmp_eq (tgt := 374) hx hb dX6_next_353 (by decide) (fun c_22 => ?_) (fun c_22 => ?_)
  rotate_left
  · exact absurd (by decide) c_22
  refine lv_iconst (v := 1) hx hb dX6_next_374 (by decide) ?_
  refine lv_goto (tgt := 379) hx hb dX6_next_375 (by decide) ?_
  refine lv_istore_n (lv' := [(2, .int 1), (1, .int 45), (0, .ref h0)]) hx hb dX6_next_379 rfl hl (by decide) rfl (fun ls hl => ?_)
  refine lv_aload_n hx hb dX6_next_380 rfl (lv_at hl 2 rfl) ?_
  refine lv_iload_n hx hb dX6_next_381 rfl (lv_at hl 0 rfl) ?_
  refine lv_if_eq (tgt := 389) hx hb dX6_next_382 (by decide) (fun c_23 => ?_) (fun c_23 => ?_)
  · exact absurd c_23 (by decide)
  refine lv_iload_n hx hb dX6_next_385 rfl (lv_at hl 1 rfl) ?_
  refine lv_goto (tgt := 390) hx hb dX6_next_386 (by decide) ?_
  refine va_put (D := G.1) (ci := 6) (v := .int 45) (ty := .int) (C := RX6) (T := TX6) (N := 42) hx hb hts hiX6 tyX6 tyX6_ok nmX6 hown hK hP hD hS 2 rfl rfl 21 (by decide) kf117 (fun _ h9 => h9) rfl (by decide +kernel) rfl rfl (Nat.le_of_ble_eq_true rfl) dX6_next_390 (fun H locs hP hD hS => ?_)
  have hP : va_P G.1 vwCl [(tp, .inl (G.2.1, 160, .inl (gPf tB 40))), (wo, .inl (G.2.1, 96, .inl (gPf tW 96))), (h0, .inr (6, [.int 0, .ref kd, .ref mo, .ref st, .int 0, .ref ro, .ref tp, .int 40, .ref cd, .ref sr, .int 0, .int 0, .int 0, .ref ir, .ref ih, .ref ss, .ref sq, .ref ce, .ref lw, .int 11, .int 11, .int 45, .int 0, .ref wo, .ref he, .int 0, .int 0, .int 1, .ref sk, .ref na, .ref kp, .int 0, .int 0, .int 0, .int 0, .ref gb, .ref go, .ref fa, .ref ga, .int 0, .int 0, .ref vo]))] H := hP
  have hD : va_D A [(tp, .inl (G.2.1, 160, .inl (gPf tB 40))), (wo, .inl (G.2.1, 96, .inl (gPf tW 96))), (h0, .inr (6, [.int 0, .ref kd, .ref mo, .ref st, .int 0, .ref ro, .ref tp, .int 40, .ref cd, .ref sr, .int 0, .int 0, .int 0, .ref ir, .ref ih, .ref ss, .ref sq, .ref ce, .ref lw, .int 11, .int 11, .int 45, .int 0, .ref wo, .ref he, .int 0, .int 0, .int 1, .ref sk, .ref na, .ref kp, .int 0, .int 0, .int 0, .int 0, .ref gb, .ref go, .ref fa, .ref ga, .int 0, .int 0, .ref vo]))] := hD
  refine lv_aload_n hx hb dX6_next_393 rfl (lv_at hl 2 rfl) ?_
  refine lv_dup hx hb dX6_next_394 rfl ?_
  refine va_get (D := G.1) (ci := 6) (v := .int 11) (C := RX6) (T := TX6) (N := 42) hx hb hts hiX6 hown hK hP 2 rfl rfl 19 (by decide) kf111 (fun _ h9 => h9) rfl dX6_next_395 ?_
  refine lv_iconst (v := 1) hx hb dX6_next_398 (by decide) ?_
  refine lv_iadd hx hb dX6_next_399 ?_
  refine lv_topi (fun v_24 ev_24 => ?_)
  have ev_24 : v_24 = 12 := ev_24.trans (by decide)
  subst ev_24
  refine va_put (D := G.1) (ci := 6) (v := .int 12) (ty := .int) (C := RX6) (T := TX6) (N := 42) hx hb hts hiX6 tyX6 tyX6_ok nmX6 hown hK hP hD hS 2 rfl rfl 19 (by decide) kf111 (fun _ h9 => h9) rfl (by decide +kernel) rfl rfl (Nat.le_of_ble_eq_true rfl) dX6_next_400 (fun H locs hP hD hS => ?_)
  have hP : va_P G.1 vwCl [(tp, .inl (G.2.1, 160, .inl (gPf tB 40))), (wo, .inl (G.2.1, 96, .inl (gPf tW 96))), (h0, .inr (6, [.int 0, .ref kd, .ref mo, .ref st, .int 0, .ref ro, .ref tp, .int 40, .ref cd, .ref sr, .int 0, .int 0, .int 0, .ref ir, .ref ih, .ref ss, .ref sq, .ref ce, .ref lw, .int 12, .int 11, .int 45, .int 0, .ref wo, .ref he, .int 0, .int 0, .int 1, .ref sk, .ref na, .ref kp, .int 0, .int 0, .int 0, .int 0, .ref gb, .ref go, .ref fa, .ref ga, .int 0, .int 0, .ref vo]))] H := hP
  have hD : va_D A [(tp, .inl (G.2.1, 160, .inl (gPf tB 40))), (wo, .inl (G.2.1, 96, .inl (gPf tW 96))), (h0, .inr (6, [.int 0, .ref kd, .ref mo, .ref st, .int 0, .ref ro, .ref tp, .int 40, .ref cd, .ref sr, .int 0, .int 0, .int 0, .ref ir, .ref ih, .ref ss, .ref sq, .ref ce, .ref lw, .int 12, .int 11, .int 45, .int 0, .ref wo, .ref he, .int 0, .int 0, .int 1, .ref sk, .ref na, .ref kp, .int 0, .int 0, .int 0, .int 0, .ref gb, .ref go, .ref fa, .ref ga, .int 0, .int 0, .ref vo]))] := hD
  have hP9 := hP.sub (ws' := [(tp, .inl (G.2.1, 160, .inl (gPf tB 40))), (wo, .inl (G.2.1, 96, .inl (gPf tW 96))), (h0, .inr (6, [.int 0, .ref kd, .ref mo, .ref st, .int 0, .ref ro, .ref tp, .int 40, .ref cd, .ref sr, .int 0, .int 0, .int 0, .ref ir, .ref ih, .ref ss, .ref sq, .ref ce, .ref lw, .int 12, .int 11, .int 45, .int 0, .ref wo, .ref he, .int 0, .int 0, .int 1, .ref sk, .ref na, .ref kp, .int 0, .int 0, .int 0, .int 0, .ref gb, .ref go, .ref fa, .ref ga, .int 0, .int 0, .ref vo]))]) [0, 1, 2] rfl
  have hD9 := hD.sub (ws' := [(tp, .inl (G.2.1, 160, .inl (gPf tB 40))), (wo, .inl (G.2.1, 96, .inl (gPf tW 96))), (h0, .inr (6, [.int 0, .ref kd, .ref mo, .ref st, .int 0, .ref ro, .ref tp, .int 40, .ref cd, .ref sr, .int 0, .int 0, .int 0, .ref ir, .ref ih, .ref ss, .ref sq, .ref ce, .ref lw, .int 12, .int 11, .int 45, .int 0, .ref wo, .ref he, .int 0, .int 0, .int 1, .ref sk, .ref na, .ref kp, .int 0, .int 0, .int 0, .int 0, .ref gb, .ref go, .ref fa, .ref ga, .int 0, .int 0, .ref vo]))]) [0, 1, 2] (by decide) rfl
  have hpost : (fun (u : Unit) => match u with | _ => True) () := by first | rfl | trivial
  exact W.vret hx hb hr (fun t ht hW => ⟨⟨(), rfl, hpost, by rw [ht]; exact hP9, va_K.moved hW.alike hK, hD9⟩, hS.F ht⟩) hS.2.2 dX6_next_403
abbrev q_X6_signOf_z18 (G : gG) (h0 kd mo st ro tp cd sr ir ih ss sq ce lw wo he sk na kp gb go fa ga vo : Nat) (A : Nat → Prop) : Array Value → State → Outcome → State → Prop := va_Qi (fun (r : Int32) (u : Unit) => match u with | _ => r = 17) (fun (u : Unit) t => match u with | _ => va_P G.1 vwCl [(h0, .inr (6, [.int 0, .ref kd, .ref mo, .ref st, .int 0, .ref ro, .ref tp, .int 40, .ref cd, .ref sr, .int 0, .int 0, .int 0, .ref ir, .ref ih, .ref ss, .ref sq, .ref ce, .ref lw, .int 12, .int 11, .int 45, .int 0, .ref wo, .ref he, .int 0, .int 0, .int 1, .ref sk, .ref na, .ref kp, .int 0, .int 0, .int 0, .int 0, .ref gb, .ref go, .ref fa, .ref ga, .int 0, .int 0, .ref vo]))] t.heap ∧ gK G t ∧ va_D A [(h0, .inr (6, [.int 0, .ref kd, .ref mo, .ref st, .int 0, .ref ro, .ref tp, .int 40, .ref cd, .ref sr, .int 0, .int 0, .int 0, .ref ir, .ref ih, .ref ss, .ref sq, .ref ce, .ref lw, .int 12, .int 11, .int 45, .int 0, .ref wo, .ref he, .int 0, .int 0, .int 1, .ref sk, .ref na, .ref kp, .int 0, .int 0, .int 0, .int 0, .ref gb, .ref go, .ref fa, .ref ga, .int 0, .int 0, .ref vo]))]) A
set_option maxHeartbeats 4000000 in
set_option maxRecDepth 100000 in
theorem c_X6_signOf_z18 (l : Launch) (G : gG) (h0 kd mo st ro tp cd sr ir ih ss sq ce lw wo he sk na kp gb go fa ga vo : Nat) (sz : Nat) : Met l yX6_signOf wsX6_signOf ({ frames := 0, cells := 0, slots := 0, locals := 0 }) (gPre G [.ref h0] [(h0, .inr (6, [.int 0, .ref kd, .ref mo, .ref st, .int 0, .ref ro, .ref tp, .int 40, .ref cd, .ref sr, .int 0, .int 0, .int 0, .ref ir, .ref ih, .ref ss, .ref sq, .ref ce, .ref lw, .int 12, .int 11, .int 45, .int 0, .ref wo, .ref he, .int 0, .int 0, .int 1, .ref sk, .ref na, .ref kp, .int 0, .int 0, .int 0, .int 0, .ref gb, .ref go, .ref fa, .ref ga, .int 0, .int 0, .ref vo]))] sz) (q_X6_signOf_z18 G h0 kd mo st ro tp cd sr ir ih ss sq ce lw wo he sk na kp gb go fa ga vo (va_A [(h0, .inr (6, [.int 0, .ref kd, .ref mo, .ref st, .int 0, .ref ro, .ref tp, .int 40, .ref cd, .ref sr, .int 0, .int 0, .int 0, .ref ir, .ref ih, .ref ss, .ref sq, .ref ce, .ref lw, .int 12, .int 11, .int 45, .int 0, .ref wo, .ref he, .int 0, .int 0, .int 1, .ref sk, .ref na, .ref kp, .int 0, .int 0, .int 0, .int 0, .ref gb, .ref go, .ref fa, .ref ga, .int 0, .int 0, .ref vo]))] sz)) 0 0 (va_A [(h0, .inr (6, [.int 0, .ref kd, .ref mo, .ref st, .int 0, .ref ro, .ref tp, .int 40, .ref cd, .ref sr, .int 0, .int 0, .int 0, .ref ir, .ref ih, .ref ss, .ref sq, .ref ce, .ref lw, .int 12, .int 11, .int 45, .int 0, .ref wo, .ref he, .int 0, .int 0, .int 1, .ref sk, .ref na, .ref kp, .int 0, .int 0, .int 0, .int 0, .ref gb, .ref go, .ref fa, .ref ga, .int 0, .int 0, .ref vo]))] sz) := by
  refine Met.ofW (cc := cX6_signOf) (maxL := 1) (ret := (some .int)) (by decide) rfl ?_
  intro p e s m args below meth c s₁ B hml hv
  obtain ⟨rfl, hsz, hP, hK, hD0⟩ := hv
  have hx := B.exec
  have hb := B.bytes
  have hr := B.returns
  have hts := atoms_spec (ws := wsX6_signOf) B.pre
  have hown : s.vm.findClass RX6 = some m.cls := findClass_of_methodNamed B.named
  have hlocks := B.notSynchronized
  subst hsz
  have hD := hD0.self (sz := s.heap.size)
  generalize hAe : va_A [(h0, .inr (6, [.int 0, .ref kd, .ref mo, .ref st, .int 0, .ref ro, .ref tp, .int 40, .ref cd, .ref sr, .int 0, .int 0, .int 0, .ref ir, .ref ih, .ref ss, .ref sq, .ref ce, .ref lw, .int 12, .int 11, .int 45, .int 0, .ref wo, .ref he, .int 0, .int 0, .int 1, .ref sk, .ref na, .ref kp, .int 0, .int 0, .int 0, .int 0, .ref gb, .ref go, .ref fa, .ref ga, .int 0, .int 0, .ref vo]))] s.heap.size = A at hD ⊢
  have hA : ∀ q : Nat, s.heap.size ≤ q → A q := fun q h => by rw [← hAe]; exact Or.inr h
  have hS : va_S A s.heap s.heap [] := va_S.rf
  have hP : va_P G.1 vwCl [(h0, .inr (6, [.int 0, .ref kd, .ref mo, .ref st, .int 0, .ref ro, .ref tp, .int 40, .ref cd, .ref sr, .int 0, .int 0, .int 0, .ref ir, .ref ih, .ref ss, .ref sq, .ref ce, .ref lw, .int 12, .int 11, .int 45, .int 0, .ref wo, .ref he, .int 0, .int 0, .int 1, .ref sk, .ref na, .ref kp, .int 0, .int 0, .int 0, .int 0, .ref gb, .ref go, .ref fa, .ref ga, .int 0, .int 0, .ref vo]))] s.heap := hP
  have hD : va_D A [(h0, .inr (6, [.int 0, .ref kd, .ref mo, .ref st, .int 0, .ref ro, .ref tp, .int 40, .ref cd, .ref sr, .int 0, .int 0, .int 0, .ref ir, .ref ih, .ref ss, .ref sq, .ref ce, .ref lw, .int 12, .int 11, .int 45, .int 0, .ref wo, .ref he, .int 0, .int 0, .int 1, .ref sk, .ref na, .ref kp, .int 0, .int 0, .int 0, .int 0, .ref gb, .ref go, .ref fa, .ref ga, .int 0, .int 0, .ref vo]))] := hD
  have hl := lv_entry ([.ref h0]) (n := 1) (Nat.le_of_ble_eq_true rfl)
  rw [lg_entry_eq]
  generalize (lg_sl ([.ref h0]) ++ List.replicate (1 - (lg_sl ([.ref h0])).length) Slot.unset).toArray = ls at hl ⊢
  have hl : lv_has ls 1 [(0, .ref h0)] := hl
  have kf117 := hts (.fieldLink RX6 117 "PebbleInShoeModel" "token" "I") (by decide +kernel)
  have hiX6 := (by decide +kernel : ∀ w ∈ wsX60, w ∈ wsX6_signOf)
  refine lv_aload_n hx hb dX6_signOf_0 rfl (lv_at hl 0 rfl) ?_
  refine va_get (D := G.1) (ci := 6) (v := .int 45) (C := RX6) (T := TX6) (N := 42) hx hb hts hiX6 hown hK hP 0 rfl rfl 21 (by decide) kf117 (fun _ h9 => h9) rfl dX6_signOf_1 ?_
  refine lv_iconst (v := 4) hx hb dX6_signOf_4 (by decide) ?_
  refine lv_icmp_ne (tgt := 13) hx hb dX6_signOf_5 (by decide) (fun c_1 => ?_) (fun c_1 => ?_)
  rotate_left
  · exact absurd c_1 (by decide)
  refine lv_aload_n hx hb dX6_signOf_13 rfl (lv_at hl 0 rfl) ?_
  refine va_get (D := G.1) (ci := 6) (v := .int 45) (C := RX6) (T := TX6) (N := 42) hx hb hts hiX6 hown hK hP 0 rfl rfl 21 (by decide) kf117 (fun _ h9 => h9) rfl dX6_signOf_14 ?_
  refine lv_iconst (v := 5) hx hb dX6_signOf_17 (by decide) ?_
  refine lv_icmp_ne (tgt := 26) hx hb dX6_signOf_18 (by decide) (fun c_2 => ?_) (fun c_2 => ?_)
  rotate_left
  · exact absurd c_2 (by decide)
  refine lv_aload_n hx hb dX6_signOf_26 rfl (lv_at hl 0 rfl) ?_
  refine va_get (D := G.1) (ci := 6) (v := .int 45) (C := RX6) (T := TX6) (N := 42) hx hb hts hiX6 hown hK hP 0 rfl rfl 21 (by decide) kf117 (fun _ h9 => h9) rfl dX6_signOf_27 ?_
  refine lv_bipush (v := 60) hx hb dX6_signOf_30 (by decide) ?_
  refine lv_icmp_ne (tgt := 40) hx hb dX6_signOf_32 (by decide) (fun c_3 => ?_) (fun c_3 => ?_)
  rotate_left
  · exact absurd c_3 (by decide)
  refine lv_aload_n hx hb dX6_signOf_40 rfl (lv_at hl 0 rfl) ?_
  refine va_get (D := G.1) (ci := 6) (v := .int 45) (C := RX6) (T := TX6) (N := 42) hx hb hts hiX6 hown hK hP 0 rfl rfl 21 (by decide) kf117 (fun _ h9 => h9) rfl dX6_signOf_41 ?_
  refine lv_bipush (v := 61) hx hb dX6_signOf_44 (by decide) ?_
  refine lv_icmp_ne (tgt := 54) hx hb dX6_signOf_46 (by decide) (fun c_4 => ?_) (fun c_4 => ?_)
  rotate_left
  · exact absurd c_4 (by decide)
  refine lv_aload_n hx hb dX6_signOf_54 rfl (lv_at hl 0 rfl) ?_
  refine va_get (D := G.1) (ci := 6) (v := .int 45) (C := RX6) (T := TX6) (N := 42) hx hb hts hiX6 hown hK hP 0 rfl rfl 21 (by decide) kf117 (fun _ h9 => h9) rfl dX6_signOf_55 ?_
  refine lv_bipush (v := 43) hx hb dX6_signOf_58 (by decide) ?_
  refine lv_icmp_ne (tgt := 68) hx hb dX6_signOf_60 (by decide) (fun c_5 => ?_) (fun c_5 => ?_)
  rotate_left
  · exact absurd c_5 (by decide)
  refine lv_aload_n hx hb dX6_signOf_68 rfl (lv_at hl 0 rfl) ?_
  refine va_get (D := G.1) (ci := 6) (v := .int 45) (C := RX6) (T := TX6) (N := 42) hx hb hts hiX6 hown hK hP 0 rfl rfl 21 (by decide) kf117 (fun _ h9 => h9) rfl dX6_signOf_69 ?_
  refine lv_bipush (v := 45) hx hb dX6_signOf_72 (by decide) ?_
  refine lv_icmp_ne (tgt := 82) hx hb dX6_signOf_74 (by decide) (fun c_6 => ?_) (fun c_6 => ?_)
  · exact absurd (by decide) c_6
  refine lv_bipush (v := 17) hx hb dX6_signOf_77 (by decide) ?_
  refine lv_goto (tgt := 97) hx hb dX6_signOf_79 (by decide) ?_
  have hP9 := hP.sub (ws' := [(h0, .inr (6, [.int 0, .ref kd, .ref mo, .ref st, .int 0, .ref ro, .ref tp, .int 40, .ref cd, .ref sr, .int 0, .int 0, .int 0, .ref ir, .ref ih, .ref ss, .ref sq, .ref ce, .ref lw, .int 12, .int 11, .int 45, .int 0, .ref wo, .ref he, .int 0, .int 0, .int 1, .ref sk, .ref na, .ref kp, .int 0, .int 0, .int 0, .int 0, .ref gb, .ref go, .ref fa, .ref ga, .int 0, .int 0, .ref vo]))]) [0] rfl
  have hD9 := hD.sub (ws' := [(h0, .inr (6, [.int 0, .ref kd, .ref mo, .ref st, .int 0, .ref ro, .ref tp, .int 40, .ref cd, .ref sr, .int 0, .int 0, .int 0, .ref ir, .ref ih, .ref ss, .ref sq, .ref ce, .ref lw, .int 12, .int 11, .int 45, .int 0, .ref wo, .ref he, .int 0, .int 0, .int 1, .ref sk, .ref na, .ref kp, .int 0, .int 0, .int 0, .int 0, .ref gb, .ref go, .ref fa, .ref ga, .int 0, .int 0, .ref vo]))]) [0] (by decide) rfl
  have hpost : (fun (r : Int32) (u : Unit) => match u with | _ => r = 17) 17 () := by first | rfl | trivial
  exact W.iret (v := 17) hx hb hr (fun t ht hW => ⟨⟨17, (), rfl, hpost, by rw [ht]; exact hP9, va_K.moved hW.alike hK, hD9⟩, hS.F ht⟩) hS.2.2 dX6_signOf_97
abbrev q_X6_rank_z20 (G : gG) (A : Nat → Prop) : Array Value → State → Outcome → State → Prop := va_Qi (fun (r : Int32) (u : Unit) => match u with | _ => r = 5) (fun (u : Unit) t => match u with | _ => va_P G.1 vwCl [] t.heap ∧ gK G t ∧ va_D A []) A
set_option maxHeartbeats 4000000 in
set_option maxRecDepth 100000 in
theorem c_X6_rank_z20 (l : Launch) (G : gG) (sz : Nat) : Met l yX6_rank wsX6_rank ({ frames := 0, cells := 0, slots := 0, locals := 0 }) (gPre G [.int 17] [] sz) (q_X6_rank_z20 G (va_A [] sz)) 0 0 (va_A [] sz) := by
  refine Met.ofW (cc := cX6_rank) (maxL := 1) (ret := (some .int)) (by decide) rfl ?_
  intro p e s m args below meth c s₁ B hml hv
  obtain ⟨rfl, hsz, hP, hK, hD0⟩ := hv
  have hx := B.exec
  have hb := B.bytes
  have hr := B.returns
  have hts := atoms_spec (ws := wsX6_rank) B.pre
  have hown : s.vm.findClass RX6 = some m.cls := findClass_of_methodNamed B.named
  have hlocks := B.notSynchronized
  subst hsz
  have hD := hD0.self (sz := s.heap.size)
  generalize hAe : va_A [] s.heap.size = A at hD ⊢
  have hA : ∀ q : Nat, s.heap.size ≤ q → A q := fun q h => by rw [← hAe]; exact Or.inr h
  have hS : va_S A s.heap s.heap [] := va_S.rf
  have hP : va_P G.1 vwCl [] s.heap := hP
  have hD : va_D A [] := hD
  have hl := lv_entry ([.int 17]) (n := 1) (Nat.le_of_ble_eq_true rfl)
  rw [lg_entry_eq]
  generalize (lg_sl ([.int 17]) ++ List.replicate (1 - (lg_sl ([.int 17])).length) Slot.unset).toArray = ls at hl ⊢
  have hl : lv_has ls 1 [(0, .int 17)] := hl
  refine lv_iload_n hx hb dX6_rank_0 rfl (lv_at hl 0 rfl) ?_
  refine lv_if_ne (tgt := 8) hx hb dX6_rank_1 (by decide) (fun c_1 => ?_) (fun c_1 => ?_)
  rotate_left
  · exact absurd c_1 (by decide)
  refine lv_iload_n hx hb dX6_rank_8 rfl (lv_at hl 0 rfl) ?_
  refine lv_bipush (v := 11) hx hb dX6_rank_9 (by decide) ?_
  refine lv_icmp_ne (tgt := 18) hx hb dX6_rank_11 (by decide) (fun c_2 => ?_) (fun c_2 => ?_)
  rotate_left
  · exact absurd c_2 (by decide)
  refine lv_iload_n hx hb dX6_rank_18 rfl (lv_at hl 0 rfl) ?_
  refine lv_bipush (v := 12) hx hb dX6_rank_19 (by decide) ?_
  refine lv_icmp_ne (tgt := 28) hx hb dX6_rank_21 (by decide) (fun c_3 => ?_) (fun c_3 => ?_)
  rotate_left
  · exact absurd c_3 (by decide)
  refine lv_iload_n hx hb dX6_rank_28 rfl (lv_at hl 0 rfl) ?_
  refine lv_bipush (v := 13) hx hb dX6_rank_29 (by decide) ?_
  refine lv_icmp_ne (tgt := 38) hx hb dX6_rank_31 (by decide) (fun c_4 => ?_) (fun c_4 => ?_)
  rotate_left
  · exact absurd c_4 (by decide)
  refine lv_iload_n hx hb dX6_rank_38 rfl (lv_at hl 0 rfl) ?_
  refine lv_bipush (v := 15) hx hb dX6_rank_39 (by decide) ?_
  refine lv_icmp_gt (tgt := 48) hx hb dX6_rank_41 (by decide) (fun c_5 => ?_) (fun c_5 => ?_)
  rotate_left
  · exact absurd (by decide) c_5
  refine lv_iload_n hx hb dX6_rank_48 rfl (lv_at hl 0 rfl) ?_
  refine lv_bipush (v := 17) hx hb dX6_rank_49 (by decide) ?_
  refine lv_icmp_gt (tgt := 58) hx hb dX6_rank_51 (by decide) (fun c_6 => ?_) (fun c_6 => ?_)
  · exact absurd c_6 (by decide)
  refine lv_iconst (v := 5) hx hb dX6_rank_54 (by decide) ?_
  refine lv_goto (tgt := 71) hx hb dX6_rank_55 (by decide) ?_
  have hP9 := hP.sub (ws' := []) [] rfl
  have hD9 := hD.sub (ws' := []) [] (by decide) rfl
  have hpost : (fun (r : Int32) (u : Unit) => match u with | _ => r = 5) 5 () := by first | rfl | trivial
  exact W.iret (v := 5) hx hb hr (fun t ht hW => ⟨⟨5, (), rfl, hpost, by rw [ht]; exact hP9, va_K.moved hW.alike hK, hD9⟩, hS.F ht⟩) hS.2.2 dX6_rank_71
abbrev q_X6_unwinds_z21 (G : gG) (h0 he cd kd mo st ro tp sr ir ih ss sq ce lw wo sk na kp gb go fa ga vo : Nat) (A : Nat → Prop) : Array Value → State → Outcome → State → Prop := va_Qv (fun (u : Unit) => match u with | _ => True) (fun (u : Unit) t => match u with | _ => va_P G.1 vwCl [(he, .inl (G.2.1, 200, .inl (fun _ => 0))), (cd, .inl (G.2.1, 1200, .inl (upd (fun _ => 0) 0 0))), (h0, .inr (6, [.int 0, .ref kd, .ref mo, .ref st, .int 0, .ref ro, .ref tp, .int 40, .ref cd, .ref sr, .int 0, .int 0, .int 0, .ref ir, .ref ih, .ref ss, .ref sq, .ref ce, .ref lw, .int 12, .int 11, .int 45, .int 0, .ref wo, .ref he, .int 0, .int 0, .int 1, .ref sk, .ref na, .ref kp, .int 0, .int 0, .int 0, .int 0, .ref gb, .ref go, .ref fa, .ref ga, .int 0, .int 0, .ref vo]))] t.heap ∧ gK G t ∧ va_D A [(he, .inl (G.2.1, 200, .inl (fun _ => 0))), (cd, .inl (G.2.1, 1200, .inl (upd (fun _ => 0) 0 0))), (h0, .inr (6, [.int 0, .ref kd, .ref mo, .ref st, .int 0, .ref ro, .ref tp, .int 40, .ref cd, .ref sr, .int 0, .int 0, .int 0, .ref ir, .ref ih, .ref ss, .ref sq, .ref ce, .ref lw, .int 12, .int 11, .int 45, .int 0, .ref wo, .ref he, .int 0, .int 0, .int 1, .ref sk, .ref na, .ref kp, .int 0, .int 0, .int 0, .int 0, .ref gb, .ref go, .ref fa, .ref ga, .int 0, .int 0, .ref vo]))]) A
set_option maxHeartbeats 4000000 in
set_option maxRecDepth 100000 in
theorem c_X6_unwinds_z21 (l : Launch) (G : gG) (h0 he cd kd mo st ro tp sr ir ih ss sq ce lw wo sk na kp gb go fa ga vo : Nat) (sz : Nat) : Met l yX6_unwinds wsX6_unwinds ({ frames := 0, cells := 0, slots := 0, locals := 0 }) (gPre G [.ref h0, .int 5] [(he, .inl (G.2.1, 200, .inl (fun _ => 0))), (cd, .inl (G.2.1, 1200, .inl (upd (fun _ => 0) 0 0))), (h0, .inr (6, [.int 0, .ref kd, .ref mo, .ref st, .int 0, .ref ro, .ref tp, .int 40, .ref cd, .ref sr, .int 0, .int 0, .int 0, .ref ir, .ref ih, .ref ss, .ref sq, .ref ce, .ref lw, .int 12, .int 11, .int 45, .int 0, .ref wo, .ref he, .int 0, .int 0, .int 1, .ref sk, .ref na, .ref kp, .int 0, .int 0, .int 0, .int 0, .ref gb, .ref go, .ref fa, .ref ga, .int 0, .int 0, .ref vo]))] sz) (q_X6_unwinds_z21 G h0 he cd kd mo st ro tp sr ir ih ss sq ce lw wo sk na kp gb go fa ga vo (va_A [(he, .inl (G.2.1, 200, .inl (fun _ => 0))), (cd, .inl (G.2.1, 1200, .inl (upd (fun _ => 0) 0 0))), (h0, .inr (6, [.int 0, .ref kd, .ref mo, .ref st, .int 0, .ref ro, .ref tp, .int 40, .ref cd, .ref sr, .int 0, .int 0, .int 0, .ref ir, .ref ih, .ref ss, .ref sq, .ref ce, .ref lw, .int 12, .int 11, .int 45, .int 0, .ref wo, .ref he, .int 0, .int 0, .int 1, .ref sk, .ref na, .ref kp, .int 0, .int 0, .int 0, .int 0, .ref gb, .ref go, .ref fa, .ref ga, .int 0, .int 0, .ref vo]))] sz)) 0 0 (va_A [(he, .inl (G.2.1, 200, .inl (fun _ => 0))), (cd, .inl (G.2.1, 1200, .inl (upd (fun _ => 0) 0 0))), (h0, .inr (6, [.int 0, .ref kd, .ref mo, .ref st, .int 0, .ref ro, .ref tp, .int 40, .ref cd, .ref sr, .int 0, .int 0, .int 0, .ref ir, .ref ih, .ref ss, .ref sq, .ref ce, .ref lw, .int 12, .int 11, .int 45, .int 0, .ref wo, .ref he, .int 0, .int 0, .int 1, .ref sk, .ref na, .ref kp, .int 0, .int 0, .int 0, .int 0, .ref gb, .ref go, .ref fa, .ref ga, .int 0, .int 0, .ref vo]))] sz) := by
  refine Met.ofW (cc := cX6_unwinds) (maxL := 3) (ret := none) (by decide) rfl ?_
  intro p e s m args below meth c s₁ B hml hv
  obtain ⟨rfl, hsz, hP, hK, hD0⟩ := hv
  have hx := B.exec
  have hb := B.bytes
  have hr := B.returns
  have hts := atoms_spec (ws := wsX6_unwinds) B.pre
  have hown : s.vm.findClass RX6 = some m.cls := findClass_of_methodNamed B.named
  have hlocks := B.notSynchronized
  subst hsz
  have hD := hD0.self (sz := s.heap.size)
  generalize hAe : va_A [(he, .inl (G.2.1, 200, .inl (fun _ => 0))), (cd, .inl (G.2.1, 1200, .inl (upd (fun _ => 0) 0 0))), (h0, .inr (6, [.int 0, .ref kd, .ref mo, .ref st, .int 0, .ref ro, .ref tp, .int 40, .ref cd, .ref sr, .int 0, .int 0, .int 0, .ref ir, .ref ih, .ref ss, .ref sq, .ref ce, .ref lw, .int 12, .int 11, .int 45, .int 0, .ref wo, .ref he, .int 0, .int 0, .int 1, .ref sk, .ref na, .ref kp, .int 0, .int 0, .int 0, .int 0, .ref gb, .ref go, .ref fa, .ref ga, .int 0, .int 0, .ref vo]))] s.heap.size = A at hD ⊢
  have hA : ∀ q : Nat, s.heap.size ≤ q → A q := fun q h => by rw [← hAe]; exact Or.inr h
  have hS : va_S A s.heap s.heap [] := va_S.rf
  have hP : va_P G.1 vwCl [(he, .inl (G.2.1, 200, .inl (fun _ => 0))), (cd, .inl (G.2.1, 1200, .inl (upd (fun _ => 0) 0 0))), (h0, .inr (6, [.int 0, .ref kd, .ref mo, .ref st, .int 0, .ref ro, .ref tp, .int 40, .ref cd, .ref sr, .int 0, .int 0, .int 0, .ref ir, .ref ih, .ref ss, .ref sq, .ref ce, .ref lw, .int 12, .int 11, .int 45, .int 0, .ref wo, .ref he, .int 0, .int 0, .int 1, .ref sk, .ref na, .ref kp, .int 0, .int 0, .int 0, .int 0, .ref gb, .ref go, .ref fa, .ref ga, .int 0, .int 0, .ref vo]))] s.heap := hP
  have hD : va_D A [(he, .inl (G.2.1, 200, .inl (fun _ => 0))), (cd, .inl (G.2.1, 1200, .inl (upd (fun _ => 0) 0 0))), (h0, .inr (6, [.int 0, .ref kd, .ref mo, .ref st, .int 0, .ref ro, .ref tp, .int 40, .ref cd, .ref sr, .int 0, .int 0, .int 0, .ref ir, .ref ih, .ref ss, .ref sq, .ref ce, .ref lw, .int 12, .int 11, .int 45, .int 0, .ref wo, .ref he, .int 0, .int 0, .int 1, .ref sk, .ref na, .ref kp, .int 0, .int 0, .int 0, .int 0, .ref gb, .ref go, .ref fa, .ref ga, .int 0, .int 0, .ref vo]))] := hD
  have hl := lv_entry ([.ref h0, .int 5]) (n := 3) (Nat.le_of_ble_eq_true rfl)
  rw [lg_entry_eq]
  generalize (lg_sl ([.ref h0, .int 5]) ++ List.replicate (3 - (lg_sl ([.ref h0, .int 5])).length) Slot.unset).toArray = ls at hl ⊢
  have hl : lv_has ls 3 [(0, .ref h0), (1, .int 5)] := hl
  have kf130 := hts (.fieldLink RX6 130 "PebbleInShoeModel" "heldMany" "I") (by decide +kernel)
  have hiX6 := (by decide +kernel : ∀ w ∈ wsX60, w ∈ wsX6_unwinds)
  refine lv_aload_n hx hb dX6_unwinds_0 rfl (lv_at hl 0 rfl) ?_
  refine va_get (D := G.1) (ci := 6) (v := .int 0) (C := RX6) (T := TX6) (N := 42) hx hb hts hiX6 hown hK hP 2 rfl rfl 25 (by decide) kf130 (fun _ h9 => h9) rfl dX6_unwinds_1 ?_
  refine lv_if_le (tgt := 79) hx hb dX6_unwinds_4 (by decide) (fun c_1 => ?_) (fun c_1 => ?_)
  rotate_left
  · exact absurd (by decide) c_1
  have hP9 := hP.sub (ws' := [(he, .inl (G.2.1, 200, .inl (fun _ => 0))), (cd, .inl (G.2.1, 1200, .inl (upd (fun _ => 0) 0 0))), (h0, .inr (6, [.int 0, .ref kd, .ref mo, .ref st, .int 0, .ref ro, .ref tp, .int 40, .ref cd, .ref sr, .int 0, .int 0, .int 0, .ref ir, .ref ih, .ref ss, .ref sq, .ref ce, .ref lw, .int 12, .int 11, .int 45, .int 0, .ref wo, .ref he, .int 0, .int 0, .int 1, .ref sk, .ref na, .ref kp, .int 0, .int 0, .int 0, .int 0, .ref gb, .ref go, .ref fa, .ref ga, .int 0, .int 0, .ref vo]))]) [0, 1, 2] rfl
  have hD9 := hD.sub (ws' := [(he, .inl (G.2.1, 200, .inl (fun _ => 0))), (cd, .inl (G.2.1, 1200, .inl (upd (fun _ => 0) 0 0))), (h0, .inr (6, [.int 0, .ref kd, .ref mo, .ref st, .int 0, .ref ro, .ref tp, .int 40, .ref cd, .ref sr, .int 0, .int 0, .int 0, .ref ir, .ref ih, .ref ss, .ref sq, .ref ce, .ref lw, .int 12, .int 11, .int 45, .int 0, .ref wo, .ref he, .int 0, .int 0, .int 1, .ref sk, .ref na, .ref kp, .int 0, .int 0, .int 0, .int 0, .ref gb, .ref go, .ref fa, .ref ga, .int 0, .int 0, .ref vo]))]) [0, 1, 2] (by decide) rfl
  have hpost : (fun (u : Unit) => match u with | _ => True) () := by first | rfl | trivial
  exact W.vret hx hb hr (fun t ht hW => ⟨⟨(), rfl, hpost, by rw [ht]; exact hP9, va_K.moved hW.alike hK, hD9⟩, hS.F ht⟩) hS.2.2 dX6_unwinds_79
abbrev q_X6_holds_z22 (G : gG) (h0 he kd mo st ro tp cd sr ir ih ss sq ce lw wo sk na kp gb go fa ga vo : Nat) (A : Nat → Prop) : Array Value → State → Outcome → State → Prop := va_Qv (fun (u : Unit) => match u with | _ => True) (fun (u : Unit) t => match u with | _ => va_P G.1 vwCl [(he, .inl (G.2.1, 200, .inl (upd (fun _ => 0) 0 17))), (h0, .inr (6, [.int 0, .ref kd, .ref mo, .ref st, .int 0, .ref ro, .ref tp, .int 40, .ref cd, .ref sr, .int 0, .int 0, .int 0, .ref ir, .ref ih, .ref ss, .ref sq, .ref ce, .ref lw, .int 12, .int 11, .int 45, .int 0, .ref wo, .ref he, .int 1, .int 0, .int 1, .ref sk, .ref na, .ref kp, .int 0, .int 0, .int 0, .int 0, .ref gb, .ref go, .ref fa, .ref ga, .int 0, .int 0, .ref vo]))] t.heap ∧ gK G t ∧ va_D A [(he, .inl (G.2.1, 200, .inl (upd (fun _ => 0) 0 17))), (h0, .inr (6, [.int 0, .ref kd, .ref mo, .ref st, .int 0, .ref ro, .ref tp, .int 40, .ref cd, .ref sr, .int 0, .int 0, .int 0, .ref ir, .ref ih, .ref ss, .ref sq, .ref ce, .ref lw, .int 12, .int 11, .int 45, .int 0, .ref wo, .ref he, .int 1, .int 0, .int 1, .ref sk, .ref na, .ref kp, .int 0, .int 0, .int 0, .int 0, .ref gb, .ref go, .ref fa, .ref ga, .int 0, .int 0, .ref vo]))]) A
set_option maxHeartbeats 4000000 in
set_option maxRecDepth 100000 in
theorem c_X6_holds_z22 (l : Launch) (G : gG) (h0 he kd mo st ro tp cd sr ir ih ss sq ce lw wo sk na kp gb go fa ga vo : Nat) (sz : Nat) : Met l yX6_holds wsX6_holds ({ frames := 0, cells := 0, slots := 0, locals := 0 }) (gPre G [.ref h0, .int 17] [(he, .inl (G.2.1, 200, .inl (fun _ => 0))), (h0, .inr (6, [.int 0, .ref kd, .ref mo, .ref st, .int 0, .ref ro, .ref tp, .int 40, .ref cd, .ref sr, .int 0, .int 0, .int 0, .ref ir, .ref ih, .ref ss, .ref sq, .ref ce, .ref lw, .int 12, .int 11, .int 45, .int 0, .ref wo, .ref he, .int 0, .int 0, .int 1, .ref sk, .ref na, .ref kp, .int 0, .int 0, .int 0, .int 0, .ref gb, .ref go, .ref fa, .ref ga, .int 0, .int 0, .ref vo]))] sz) (q_X6_holds_z22 G h0 he kd mo st ro tp cd sr ir ih ss sq ce lw wo sk na kp gb go fa ga vo (va_A [(he, .inl (G.2.1, 200, .inl (fun _ => 0))), (h0, .inr (6, [.int 0, .ref kd, .ref mo, .ref st, .int 0, .ref ro, .ref tp, .int 40, .ref cd, .ref sr, .int 0, .int 0, .int 0, .ref ir, .ref ih, .ref ss, .ref sq, .ref ce, .ref lw, .int 12, .int 11, .int 45, .int 0, .ref wo, .ref he, .int 0, .int 0, .int 1, .ref sk, .ref na, .ref kp, .int 0, .int 0, .int 0, .int 0, .ref gb, .ref go, .ref fa, .ref ga, .int 0, .int 0, .ref vo]))] sz)) 0 0 (va_A [(he, .inl (G.2.1, 200, .inl (fun _ => 0))), (h0, .inr (6, [.int 0, .ref kd, .ref mo, .ref st, .int 0, .ref ro, .ref tp, .int 40, .ref cd, .ref sr, .int 0, .int 0, .int 0, .ref ir, .ref ih, .ref ss, .ref sq, .ref ce, .ref lw, .int 12, .int 11, .int 45, .int 0, .ref wo, .ref he, .int 0, .int 0, .int 1, .ref sk, .ref na, .ref kp, .int 0, .int 0, .int 0, .int 0, .ref gb, .ref go, .ref fa, .ref ga, .int 0, .int 0, .ref vo]))] sz) := by
  refine Met.ofW (cc := cX6_holds) (maxL := 2) (ret := none) (by decide) rfl ?_
  intro p e s m args below meth c s₁ B hml hv
  obtain ⟨rfl, hsz, hP, hK, hD0⟩ := hv
  have hx := B.exec
  have hb := B.bytes
  have hr := B.returns
  have hts := atoms_spec (ws := wsX6_holds) B.pre
  have hown : s.vm.findClass RX6 = some m.cls := findClass_of_methodNamed B.named
  have hlocks := B.notSynchronized
  subst hsz
  have hD := hD0.self (sz := s.heap.size)
  generalize hAe : va_A [(he, .inl (G.2.1, 200, .inl (fun _ => 0))), (h0, .inr (6, [.int 0, .ref kd, .ref mo, .ref st, .int 0, .ref ro, .ref tp, .int 40, .ref cd, .ref sr, .int 0, .int 0, .int 0, .ref ir, .ref ih, .ref ss, .ref sq, .ref ce, .ref lw, .int 12, .int 11, .int 45, .int 0, .ref wo, .ref he, .int 0, .int 0, .int 1, .ref sk, .ref na, .ref kp, .int 0, .int 0, .int 0, .int 0, .ref gb, .ref go, .ref fa, .ref ga, .int 0, .int 0, .ref vo]))] s.heap.size = A at hD ⊢
  have hA : ∀ q : Nat, s.heap.size ≤ q → A q := fun q h => by rw [← hAe]; exact Or.inr h
  have hS : va_S A s.heap s.heap [] := va_S.rf
  have hP : va_P G.1 vwCl [(he, .inl (G.2.1, 200, .inl (fun _ => 0))), (h0, .inr (6, [.int 0, .ref kd, .ref mo, .ref st, .int 0, .ref ro, .ref tp, .int 40, .ref cd, .ref sr, .int 0, .int 0, .int 0, .ref ir, .ref ih, .ref ss, .ref sq, .ref ce, .ref lw, .int 12, .int 11, .int 45, .int 0, .ref wo, .ref he, .int 0, .int 0, .int 1, .ref sk, .ref na, .ref kp, .int 0, .int 0, .int 0, .int 0, .ref gb, .ref go, .ref fa, .ref ga, .int 0, .int 0, .ref vo]))] s.heap := hP
  have hD : va_D A [(he, .inl (G.2.1, 200, .inl (fun _ => 0))), (h0, .inr (6, [.int 0, .ref kd, .ref mo, .ref st, .int 0, .ref ro, .ref tp, .int 40, .ref cd, .ref sr, .int 0, .int 0, .int 0, .ref ir, .ref ih, .ref ss, .ref sq, .ref ce, .ref lw, .int 12, .int 11, .int 45, .int 0, .ref wo, .ref he, .int 0, .int 0, .int 1, .ref sk, .ref na, .ref kp, .int 0, .int 0, .int 0, .int 0, .ref gb, .ref go, .ref fa, .ref ga, .int 0, .int 0, .ref vo]))] := hD
  have hl := lv_entry ([.ref h0, .int 17]) (n := 2) (Nat.le_of_ble_eq_true rfl)
  rw [lg_entry_eq]
  generalize (lg_sl ([.ref h0, .int 17]) ++ List.replicate (2 - (lg_sl ([.ref h0, .int 17])).length) Slot.unset).toArray = ls at hl ⊢
  have hl : lv_has ls 2 [(0, .ref h0), (1, .int 17)] := hl
  have kf52 := hts (.fieldLink RX6 52 "PebbleInShoeModel" "held" "[I") (by decide +kernel)
  have hiX6 := (by decide +kernel : ∀ w ∈ wsX60, w ∈ wsX6_holds)
  have kf130 := hts (.fieldLink RX6 130 "PebbleInShoeModel" "heldMany" "I") (by decide +kernel)
  refine lv_aload_n hx hb dX6_holds_0 rfl (lv_at hl 0 rfl) ?_
  refine va_get (D := G.1) (ci := 6) (v := .ref he) (C := RX6) (T := TX6) (N := 42) hx hb hts hiX6 hown hK hP 1 rfl rfl 24 (by decide) kf52 (fun _ h9 => h9) rfl dX6_holds_1 ?_
  refine lv_aload_n hx hb dX6_holds_4 rfl (lv_at hl 0 rfl) ?_
  refine va_get (D := G.1) (ci := 6) (v := .int 0) (C := RX6) (T := TX6) (N := 42) hx hb hts hiX6 hown hK hP 1 rfl rfl 25 (by decide) kf130 (fun _ h9 => h9) rfl dX6_holds_5 ?_
  refine lv_iload_n hx hb dX6_holds_8 rfl (lv_at hl 1 rfl) ?_
  refine va_iast (D := G.1) hx hb hK hP hD hS 0 0 rfl rfl (i := 0) (x := 17) (gIn (by decide)) dX6_holds_9 (fun H locs hP hD hS => ?_)
  have hP : va_P G.1 vwCl [(he, .inl (G.2.1, 200, .inl (upd (fun _ => 0) 0 17))), (h0, .inr (6, [.int 0, .ref kd, .ref mo, .ref st, .int 0, .ref ro, .ref tp, .int 40, .ref cd, .ref sr, .int 0, .int 0, .int 0, .ref ir, .ref ih, .ref ss, .ref sq, .ref ce, .ref lw, .int 12, .int 11, .int 45, .int 0, .ref wo, .ref he, .int 0, .int 0, .int 1, .ref sk, .ref na, .ref kp, .int 0, .int 0, .int 0, .int 0, .ref gb, .ref go, .ref fa, .ref ga, .int 0, .int 0, .ref vo]))] H := hP
  have hD : va_D A [(he, .inl (G.2.1, 200, .inl (upd (fun _ => 0) 0 17))), (h0, .inr (6, [.int 0, .ref kd, .ref mo, .ref st, .int 0, .ref ro, .ref tp, .int 40, .ref cd, .ref sr, .int 0, .int 0, .int 0, .ref ir, .ref ih, .ref ss, .ref sq, .ref ce, .ref lw, .int 12, .int 11, .int 45, .int 0, .ref wo, .ref he, .int 0, .int 0, .int 1, .ref sk, .ref na, .ref kp, .int 0, .int 0, .int 0, .int 0, .ref gb, .ref go, .ref fa, .ref ga, .int 0, .int 0, .ref vo]))] := hD
  refine lv_aload_n hx hb dX6_holds_10 rfl (lv_at hl 0 rfl) ?_
  refine lv_dup hx hb dX6_holds_11 rfl ?_
  refine va_get (D := G.1) (ci := 6) (v := .int 0) (C := RX6) (T := TX6) (N := 42) hx hb hts hiX6 hown hK hP 1 rfl rfl 25 (by decide) kf130 (fun _ h9 => h9) rfl dX6_holds_12 ?_
  refine lv_iconst (v := 1) hx hb dX6_holds_15 (by decide) ?_
  refine lv_iadd hx hb dX6_holds_16 ?_
  refine lv_topi (fun v_1 ev_1 => ?_)
  have ev_1 : v_1 = 1 := ev_1.trans (by decide)
  subst ev_1
  refine va_put (D := G.1) (ci := 6) (v := .int 1) (ty := .int) (C := RX6) (T := TX6) (N := 42) hx hb hts hiX6 tyX6 tyX6_ok nmX6 hown hK hP hD hS 1 rfl rfl 25 (by decide) kf130 (fun _ h9 => h9) rfl (by decide +kernel) rfl rfl (Nat.le_of_ble_eq_true rfl) dX6_holds_17 (fun H locs hP hD hS => ?_)
  have hP : va_P G.1 vwCl [(he, .inl (G.2.1, 200, .inl (upd (fun _ => 0) 0 17))), (h0, .inr (6, [.int 0, .ref kd, .ref mo, .ref st, .int 0, .ref ro, .ref tp, .int 40, .ref cd, .ref sr, .int 0, .int 0, .int 0, .ref ir, .ref ih, .ref ss, .ref sq, .ref ce, .ref lw, .int 12, .int 11, .int 45, .int 0, .ref wo, .ref he, .int 1, .int 0, .int 1, .ref sk, .ref na, .ref kp, .int 0, .int 0, .int 0, .int 0, .ref gb, .ref go, .ref fa, .ref ga, .int 0, .int 0, .ref vo]))] H := hP
  have hD : va_D A [(he, .inl (G.2.1, 200, .inl (upd (fun _ => 0) 0 17))), (h0, .inr (6, [.int 0, .ref kd, .ref mo, .ref st, .int 0, .ref ro, .ref tp, .int 40, .ref cd, .ref sr, .int 0, .int 0, .int 0, .ref ir, .ref ih, .ref ss, .ref sq, .ref ce, .ref lw, .int 12, .int 11, .int 45, .int 0, .ref wo, .ref he, .int 1, .int 0, .int 1, .ref sk, .ref na, .ref kp, .int 0, .int 0, .int 0, .int 0, .ref gb, .ref go, .ref fa, .ref ga, .int 0, .int 0, .ref vo]))] := hD
  have hP9 := hP.sub (ws' := [(he, .inl (G.2.1, 200, .inl (upd (fun _ => 0) 0 17))), (h0, .inr (6, [.int 0, .ref kd, .ref mo, .ref st, .int 0, .ref ro, .ref tp, .int 40, .ref cd, .ref sr, .int 0, .int 0, .int 0, .ref ir, .ref ih, .ref ss, .ref sq, .ref ce, .ref lw, .int 12, .int 11, .int 45, .int 0, .ref wo, .ref he, .int 1, .int 0, .int 1, .ref sk, .ref na, .ref kp, .int 0, .int 0, .int 0, .int 0, .ref gb, .ref go, .ref fa, .ref ga, .int 0, .int 0, .ref vo]))]) [0, 1] rfl
  have hD9 := hD.sub (ws' := [(he, .inl (G.2.1, 200, .inl (upd (fun _ => 0) 0 17))), (h0, .inr (6, [.int 0, .ref kd, .ref mo, .ref st, .int 0, .ref ro, .ref tp, .int 40, .ref cd, .ref sr, .int 0, .int 0, .int 0, .ref ir, .ref ih, .ref ss, .ref sq, .ref ce, .ref lw, .int 12, .int 11, .int 45, .int 0, .ref wo, .ref he, .int 1, .int 0, .int 1, .ref sk, .ref na, .ref kp, .int 0, .int 0, .int 0, .int 0, .ref gb, .ref go, .ref fa, .ref ga, .int 0, .int 0, .ref vo]))]) [0, 1] (by decide) rfl
  have hpost : (fun (u : Unit) => match u with | _ => True) () := by first | rfl | trivial
  exact W.vret hx hb hr (fun t ht hW => ⟨⟨(), rfl, hpost, by rw [ht]; exact hP9, va_K.moved hW.alike hK, hD9⟩, hS.F ht⟩) hS.2.2 dX6_holds_20
abbrev q_X6_between_z19 (G : gG) (h0 he cd kd mo st ro tp sr ir ih ss sq ce lw wo sk na kp gb go fa ga vo : Nat) (A : Nat → Prop) : Array Value → State → Outcome → State → Prop := va_Qi (fun (r : Int32) (u : Unit) => match u with | _ => r = 1) (fun (u : Unit) t => match u with | _ => va_P G.1 vwCl [(he, .inl (G.2.1, 200, .inl (upd (fun _ => 0) 0 17))), (cd, .inl (G.2.1, 1200, .inl (upd (fun _ => 0) 0 0))), (h0, .inr (6, [.int 0, .ref kd, .ref mo, .ref st, .int 0, .ref ro, .ref tp, .int 40, .ref cd, .ref sr, .int 0, .int 0, .int 0, .ref ir, .ref ih, .ref ss, .ref sq, .ref ce, .ref lw, .int 12, .int 11, .int 45, .int 0, .ref wo, .ref he, .int 1, .int 0, .int 1, .ref sk, .ref na, .ref kp, .int 0, .int 0, .int 0, .int 0, .ref gb, .ref go, .ref fa, .ref ga, .int 0, .int 0, .ref vo]))] t.heap ∧ gK G t ∧ va_D A [(he, .inl (G.2.1, 200, .inl (upd (fun _ => 0) 0 17))), (cd, .inl (G.2.1, 1200, .inl (upd (fun _ => 0) 0 0))), (h0, .inr (6, [.int 0, .ref kd, .ref mo, .ref st, .int 0, .ref ro, .ref tp, .int 40, .ref cd, .ref sr, .int 0, .int 0, .int 0, .ref ir, .ref ih, .ref ss, .ref sq, .ref ce, .ref lw, .int 12, .int 11, .int 45, .int 0, .ref wo, .ref he, .int 1, .int 0, .int 1, .ref sk, .ref na, .ref kp, .int 0, .int 0, .int 0, .int 0, .ref gb, .ref go, .ref fa, .ref ga, .int 0, .int 0, .ref vo]))]) A
set_option maxHeartbeats 4000000 in
set_option maxRecDepth 100000 in
theorem c_X6_between_z19 (l : Launch) (G : gG) (h0 he cd kd mo st ro tp sr ir ih ss sq ce lw wo sk na kp gb go fa ga vo : Nat) (sz : Nat) : Met l yX6_between wsX6_between ({ frames := 1, cells := 0, slots := 0, locals := 22 }) (gPre G [.ref h0, .int 17] [(he, .inl (G.2.1, 200, .inl (fun _ => 0))), (cd, .inl (G.2.1, 1200, .inl (upd (fun _ => 0) 0 0))), (h0, .inr (6, [.int 0, .ref kd, .ref mo, .ref st, .int 0, .ref ro, .ref tp, .int 40, .ref cd, .ref sr, .int 0, .int 0, .int 0, .ref ir, .ref ih, .ref ss, .ref sq, .ref ce, .ref lw, .int 12, .int 11, .int 45, .int 0, .ref wo, .ref he, .int 0, .int 0, .int 1, .ref sk, .ref na, .ref kp, .int 0, .int 0, .int 0, .int 0, .ref gb, .ref go, .ref fa, .ref ga, .int 0, .int 0, .ref vo]))] sz) (q_X6_between_z19 G h0 he cd kd mo st ro tp sr ir ih ss sq ce lw wo sk na kp gb go fa ga vo (va_A [(he, .inl (G.2.1, 200, .inl (fun _ => 0))), (cd, .inl (G.2.1, 1200, .inl (upd (fun _ => 0) 0 0))), (h0, .inr (6, [.int 0, .ref kd, .ref mo, .ref st, .int 0, .ref ro, .ref tp, .int 40, .ref cd, .ref sr, .int 0, .int 0, .int 0, .ref ir, .ref ih, .ref ss, .ref sq, .ref ce, .ref lw, .int 12, .int 11, .int 45, .int 0, .ref wo, .ref he, .int 0, .int 0, .int 1, .ref sk, .ref na, .ref kp, .int 0, .int 0, .int 0, .int 0, .ref gb, .ref go, .ref fa, .ref ga, .int 0, .int 0, .ref vo]))] sz)) 0 0 (va_A [(he, .inl (G.2.1, 200, .inl (fun _ => 0))), (cd, .inl (G.2.1, 1200, .inl (upd (fun _ => 0) 0 0))), (h0, .inr (6, [.int 0, .ref kd, .ref mo, .ref st, .int 0, .ref ro, .ref tp, .int 40, .ref cd, .ref sr, .int 0, .int 0, .int 0, .ref ir, .ref ih, .ref ss, .ref sq, .ref ce, .ref lw, .int 12, .int 11, .int 45, .int 0, .ref wo, .ref he, .int 0, .int 0, .int 1, .ref sk, .ref na, .ref kp, .int 0, .int 0, .int 0, .int 0, .ref gb, .ref go, .ref fa, .ref ga, .int 0, .int 0, .ref vo]))] sz) := by
  refine Met.ofW (cc := cX6_between) (maxL := 2) (ret := (some .boolean)) (by decide) rfl ?_
  intro p e s m args below meth c s₁ B hml hv
  obtain ⟨rfl, hsz, hP, hK, hD0⟩ := hv
  have hx := B.exec
  have hb := B.bytes
  have hr := B.returns
  have hts := atoms_spec (ws := wsX6_between) B.pre
  have hown : s.vm.findClass RX6 = some m.cls := findClass_of_methodNamed B.named
  have hlocks := B.notSynchronized
  subst hsz
  have hD := hD0.self (sz := s.heap.size)
  generalize hAe : va_A [(he, .inl (G.2.1, 200, .inl (fun _ => 0))), (cd, .inl (G.2.1, 1200, .inl (upd (fun _ => 0) 0 0))), (h0, .inr (6, [.int 0, .ref kd, .ref mo, .ref st, .int 0, .ref ro, .ref tp, .int 40, .ref cd, .ref sr, .int 0, .int 0, .int 0, .ref ir, .ref ih, .ref ss, .ref sq, .ref ce, .ref lw, .int 12, .int 11, .int 45, .int 0, .ref wo, .ref he, .int 0, .int 0, .int 1, .ref sk, .ref na, .ref kp, .int 0, .int 0, .int 0, .int 0, .ref gb, .ref go, .ref fa, .ref ga, .int 0, .int 0, .ref vo]))] s.heap.size = A at hD ⊢
  have hA : ∀ q : Nat, s.heap.size ≤ q → A q := fun q h => by rw [← hAe]; exact Or.inr h
  have hS : va_S A s.heap s.heap [] := va_S.rf
  have hP : va_P G.1 vwCl [(he, .inl (G.2.1, 200, .inl (fun _ => 0))), (cd, .inl (G.2.1, 1200, .inl (upd (fun _ => 0) 0 0))), (h0, .inr (6, [.int 0, .ref kd, .ref mo, .ref st, .int 0, .ref ro, .ref tp, .int 40, .ref cd, .ref sr, .int 0, .int 0, .int 0, .ref ir, .ref ih, .ref ss, .ref sq, .ref ce, .ref lw, .int 12, .int 11, .int 45, .int 0, .ref wo, .ref he, .int 0, .int 0, .int 1, .ref sk, .ref na, .ref kp, .int 0, .int 0, .int 0, .int 0, .ref gb, .ref go, .ref fa, .ref ga, .int 0, .int 0, .ref vo]))] s.heap := hP
  have hD : va_D A [(he, .inl (G.2.1, 200, .inl (fun _ => 0))), (cd, .inl (G.2.1, 1200, .inl (upd (fun _ => 0) 0 0))), (h0, .inr (6, [.int 0, .ref kd, .ref mo, .ref st, .int 0, .ref ro, .ref tp, .int 40, .ref cd, .ref sr, .int 0, .int 0, .int 0, .ref ir, .ref ih, .ref ss, .ref sq, .ref ce, .ref lw, .int 12, .int 11, .int 45, .int 0, .ref wo, .ref he, .int 0, .int 0, .int 1, .ref sk, .ref na, .ref kp, .int 0, .int 0, .int 0, .int 0, .ref gb, .ref go, .ref fa, .ref ga, .int 0, .int 0, .ref vo]))] := hD
  have hl := lv_entry ([.ref h0, .int 17]) (n := 2) (Nat.le_of_ble_eq_true rfl)
  rw [lg_entry_eq]
  generalize (lg_sl ([.ref h0, .int 17]) ++ List.replicate (2 - (lg_sl ([.ref h0, .int 17])).length) Slot.unset).toArray = ls at hl ⊢
  have hl : lv_has ls 2 [(0, .ref h0), (1, .int 17)] := hl
  refine lv_aload_n hx hb dX6_between_0 rfl (lv_at hl 0 rfl) ?_
  refine lv_iload_n hx hb dX6_between_1 rfl (lv_at hl 1 rfl) ?_
  have hPc : va_P G.1 vwCl [] s.heap := hP.sub [] rfl
  have hDc : va_D A [] := hD.sub [] (by decide) rfl
  have hFc := va_free (wc := []) hD hS hA [] rfl
  refine va_calli (va_runS (As := [.int 17]) (rest := [.ref h0]) ⟨hx, hb, hml, hown, hts⟩ (c_X6_rank_z20 l G s.heap.size) (va_cwS 1 hts gX6_between_X6_rank rfl rfl rfl (by decide +kernel) ⟨Nat.le_of_ble_eq_true rfl, Nat.le_of_ble_eq_true rfl⟩) ⟨gPre_blind, fun U hU hW => gPre_of hU hW hK hPc hDc⟩ rfl rfl hl.1 rfl (lv_room (Nat.le_of_ble_eq_true rfl)) dX6_between_2 ⟨Nat.le_of_ble_eq_true rfl, Nat.le_of_ble_eq_true rfl⟩) hS (fun q _ h => hFc q h) hFc (fun r_1 u t H locs ht hvm w_2 hB hz1 hk1 hS => ?_)
  obtain ⟨hP1, hK1, hD1⟩ := hB
  rw [ht] at hP1
  have hP1 : va_P G.1 vwCl [] H := hP1
  have hD1 : va_D (va_A [] s.heap.size) [] := hD1
  have w_2 : r_1 = 5 := w_2
  obtain ⟨hP, hD⟩ := va_join (wr := [(he, .inl (G.2.1, 200, .inl (fun _ => 0))), (cd, .inl (G.2.1, 1200, .inl (upd (fun _ => 0) 0 0))), (h0, .inr (6, [.int 0, .ref kd, .ref mo, .ref st, .int 0, .ref ro, .ref tp, .int 40, .ref cd, .ref sr, .int 0, .int 0, .int 0, .ref ir, .ref ih, .ref ss, .ref sq, .ref ce, .ref lw, .int 12, .int 11, .int 45, .int 0, .ref wo, .ref he, .int 0, .int 0, .int 1, .ref sk, .ref na, .ref kp, .int 0, .int 0, .int 0, .int 0, .ref gb, .ref go, .ref fa, .ref ga, .int 0, .int 0, .ref vo]))]) (w1 := []) hP hD [] [0, 1, 2] rfl rfl (by decide) (by decide) hk1 hFc hP1 hD1
  have hP : va_P G.1 vwCl [(he, .inl (G.2.1, 200, .inl (fun _ => 0))), (cd, .inl (G.2.1, 1200, .inl (upd (fun _ => 0) 0 0))), (h0, .inr (6, [.int 0, .ref kd, .ref mo, .ref st, .int 0, .ref ro, .ref tp, .int 40, .ref cd, .ref sr, .int 0, .int 0, .int 0, .ref ir, .ref ih, .ref ss, .ref sq, .ref ce, .ref lw, .int 12, .int 11, .int 45, .int 0, .ref wo, .ref he, .int 0, .int 0, .int 1, .ref sk, .ref na, .ref kp, .int 0, .int 0, .int 0, .int 0, .ref gb, .ref go, .ref fa, .ref ga, .int 0, .int 0, .ref vo]))] H := hP
  have hD : va_D A [(he, .inl (G.2.1, 200, .inl (fun _ => 0))), (cd, .inl (G.2.1, 1200, .inl (upd (fun _ => 0) 0 0))), (h0, .inr (6, [.int 0, .ref kd, .ref mo, .ref st, .int 0, .ref ro, .ref tp, .int 40, .ref cd, .ref sr, .int 0, .int 0, .int 0, .ref ir, .ref ih, .ref ss, .ref sq, .ref ce, .ref lw, .int 12, .int 11, .int 45, .int 0, .ref wo, .ref he, .int 0, .int 0, .int 1, .ref sk, .ref na, .ref kp, .int 0, .int 0, .int 0, .int 0, .ref gb, .ref go, .ref fa, .ref ga, .int 0, .int 0, .ref vo]))] := hD
  have w_2 : r_1 = 5 := w_2
  subst w_2
  refine lv_iconst (v := 4) hx hb dX6_between_5 (by decide) ?_
  refine lv_icmp_ne (tgt := 13) hx hb dX6_between_6 (by decide) (fun c_3 => ?_) (fun c_3 => ?_)
  rotate_left
  · exact absurd c_3 (by decide)
  refine lv_iload_n hx hb dX6_between_13 rfl (lv_at hl 1 rfl) ?_
  have hPc : va_P G.1 vwCl [] H := hP.sub [] rfl
  have hDc : va_D A [] := hD.sub [] (by decide) rfl
  have hFc := va_free (wc := []) hD hS hA [] rfl
  refine va_calli (va_runS (As := [.int 17]) (rest := [.ref h0]) ⟨hx, hb, hml, hown, hts⟩ (c_X6_rank_z20 l G H.size) (va_cwS 1 hts gX6_between_X6_rank rfl rfl rfl (by decide +kernel) ⟨Nat.le_of_ble_eq_true rfl, Nat.le_of_ble_eq_true rfl⟩) ⟨gPre_blind, fun U hU hW => gPre_of hU hW hK hPc hDc⟩ rfl rfl hl.1 rfl (lv_room (Nat.le_of_ble_eq_true rfl)) dX6_between_14 ⟨Nat.le_of_ble_eq_true rfl, Nat.le_of_ble_eq_true rfl⟩) hS (fun q _ h => hFc q h) hFc (fun r_4 u t H locs ht hvm w_5 hB hz1 hk1 hS => ?_)
  obtain ⟨hP1, hK1, hD1⟩ := hB
  rw [ht] at hP1
  have hP1 : va_P G.1 vwCl [] H := hP1
  have hD1 : va_D (va_A [] _) [] := hD1
  have w_5 : r_4 = 5 := w_5
  obtain ⟨hP, hD⟩ := va_join (wr := [(he, .inl (G.2.1, 200, .inl (fun _ => 0))), (cd, .inl (G.2.1, 1200, .inl (upd (fun _ => 0) 0 0))), (h0, .inr (6, [.int 0, .ref kd, .ref mo, .ref st, .int 0, .ref ro, .ref tp, .int 40, .ref cd, .ref sr, .int 0, .int 0, .int 0, .ref ir, .ref ih, .ref ss, .ref sq, .ref ce, .ref lw, .int 12, .int 11, .int 45, .int 0, .ref wo, .ref he, .int 0, .int 0, .int 1, .ref sk, .ref na, .ref kp, .int 0, .int 0, .int 0, .int 0, .ref gb, .ref go, .ref fa, .ref ga, .int 0, .int 0, .ref vo]))]) (w1 := []) hP hD [] [0, 1, 2] rfl rfl (by decide) (by decide) hk1 hFc hP1 hD1
  have hP : va_P G.1 vwCl [(he, .inl (G.2.1, 200, .inl (fun _ => 0))), (cd, .inl (G.2.1, 1200, .inl (upd (fun _ => 0) 0 0))), (h0, .inr (6, [.int 0, .ref kd, .ref mo, .ref st, .int 0, .ref ro, .ref tp, .int 40, .ref cd, .ref sr, .int 0, .int 0, .int 0, .ref ir, .ref ih, .ref ss, .ref sq, .ref ce, .ref lw, .int 12, .int 11, .int 45, .int 0, .ref wo, .ref he, .int 0, .int 0, .int 1, .ref sk, .ref na, .ref kp, .int 0, .int 0, .int 0, .int 0, .ref gb, .ref go, .ref fa, .ref ga, .int 0, .int 0, .ref vo]))] H := hP
  have hD : va_D A [(he, .inl (G.2.1, 200, .inl (fun _ => 0))), (cd, .inl (G.2.1, 1200, .inl (upd (fun _ => 0) 0 0))), (h0, .inr (6, [.int 0, .ref kd, .ref mo, .ref st, .int 0, .ref ro, .ref tp, .int 40, .ref cd, .ref sr, .int 0, .int 0, .int 0, .ref ir, .ref ih, .ref ss, .ref sq, .ref ce, .ref lw, .int 12, .int 11, .int 45, .int 0, .ref wo, .ref he, .int 0, .int 0, .int 1, .ref sk, .ref na, .ref kp, .int 0, .int 0, .int 0, .int 0, .ref gb, .ref go, .ref fa, .ref ga, .int 0, .int 0, .ref vo]))] := hD
  have w_5 : r_4 = 5 := w_5
  subst w_5
  have hPc : va_P G.1 vwCl [(he, .inl (G.2.1, 200, .inl (fun _ => 0))), (cd, .inl (G.2.1, 1200, .inl (upd (fun _ => 0) 0 0))), (h0, .inr (6, [.int 0, .ref kd, .ref mo, .ref st, .int 0, .ref ro, .ref tp, .int 40, .ref cd, .ref sr, .int 0, .int 0, .int 0, .ref ir, .ref ih, .ref ss, .ref sq, .ref ce, .ref lw, .int 12, .int 11, .int 45, .int 0, .ref wo, .ref he, .int 0, .int 0, .int 1, .ref sk, .ref na, .ref kp, .int 0, .int 0, .int 0, .int 0, .ref gb, .ref go, .ref fa, .ref ga, .int 0, .int 0, .ref vo]))] H := hP.sub [0, 1, 2] rfl
  have hDc : va_D A [(he, .inl (G.2.1, 200, .inl (fun _ => 0))), (cd, .inl (G.2.1, 1200, .inl (upd (fun _ => 0) 0 0))), (h0, .inr (6, [.int 0, .ref kd, .ref mo, .ref st, .int 0, .ref ro, .ref tp, .int 40, .ref cd, .ref sr, .int 0, .int 0, .int 0, .ref ir, .ref ih, .ref ss, .ref sq, .ref ce, .ref lw, .int 12, .int 11, .int 45, .int 0, .ref wo, .ref he, .int 0, .int 0, .int 1, .ref sk, .ref na, .ref kp, .int 0, .int 0, .int 0, .int 0, .ref gb, .ref go, .ref fa, .ref ga, .int 0, .int 0, .ref vo]))] := hD.sub [0, 1, 2] (by decide) rfl
  have hFc := va_free (wc := [(he, .inl (G.2.1, 200, .inl (fun _ => 0))), (cd, .inl (G.2.1, 1200, .inl (upd (fun _ => 0) 0 0))), (h0, .inr (6, [.int 0, .ref kd, .ref mo, .ref st, .int 0, .ref ro, .ref tp, .int 40, .ref cd, .ref sr, .int 0, .int 0, .int 0, .ref ir, .ref ih, .ref ss, .ref sq, .ref ce, .ref lw, .int 12, .int 11, .int 45, .int 0, .ref wo, .ref he, .int 0, .int 0, .int 1, .ref sk, .ref na, .ref kp, .int 0, .int 0, .int 0, .int 0, .ref gb, .ref go, .ref fa, .ref ga, .int 0, .int 0, .ref vo]))]) hD hS hA [0, 1, 2] rfl
  refine va_callv (va_runV (As := [.int 5]) (rest := []) ⟨hx, hb, hml, hown, hts⟩ (c_X6_unwinds_z21 l G h0 he cd kd mo st ro tp sr ir ih ss sq ce lw wo sk na kp gb go fa ga vo H.size) (cwV 1 hts gX6_between_X6_unwinds rfl rfl rfl (by decide +kernel) ⟨Nat.le_of_ble_eq_true rfl, Nat.le_of_ble_eq_true rfl⟩) ⟨gPre_blind, va_recv hK hPc (ci := 6) (q0 := 2) rfl rfl, fun U hU hW => gPre_of hU hW hK hPc hDc⟩ rfl rfl hl.1 rfl (lv_room (Nat.le_of_ble_eq_true rfl)) dX6_between_17 ⟨Nat.le_of_ble_eq_true rfl, Nat.le_of_ble_eq_true rfl⟩) hS (fun q _ h => hFc q h) hFc (fun u t H locs ht hvm w_7 hB hz1 hk1 hS => ?_)
  obtain ⟨hP1, hK1, hD1⟩ := hB
  rw [ht] at hP1
  have hP1 : va_P G.1 vwCl [(he, .inl (G.2.1, 200, .inl (fun _ => 0))), (cd, .inl (G.2.1, 1200, .inl (upd (fun _ => 0) 0 0))), (h0, .inr (6, [.int 0, .ref kd, .ref mo, .ref st, .int 0, .ref ro, .ref tp, .int 40, .ref cd, .ref sr, .int 0, .int 0, .int 0, .ref ir, .ref ih, .ref ss, .ref sq, .ref ce, .ref lw, .int 12, .int 11, .int 45, .int 0, .ref wo, .ref he, .int 0, .int 0, .int 1, .ref sk, .ref na, .ref kp, .int 0, .int 0, .int 0, .int 0, .ref gb, .ref go, .ref fa, .ref ga, .int 0, .int 0, .ref vo]))] H := hP1
  have hD1 : va_D (va_A [(he, .inl (G.2.1, 200, .inl (fun _ => 0))), (cd, .inl (G.2.1, 1200, .inl (upd (fun _ => 0) 0 0))), (h0, .inr (6, [.int 0, .ref kd, .ref mo, .ref st, .int 0, .ref ro, .ref tp, .int 40, .ref cd, .ref sr, .int 0, .int 0, .int 0, .ref ir, .ref ih, .ref ss, .ref sq, .ref ce, .ref lw, .int 12, .int 11, .int 45, .int 0, .ref wo, .ref he, .int 0, .int 0, .int 1, .ref sk, .ref na, .ref kp, .int 0, .int 0, .int 0, .int 0, .ref gb, .ref go, .ref fa, .ref ga, .int 0, .int 0, .ref vo]))] _) [(he, .inl (G.2.1, 200, .inl (fun _ => 0))), (cd, .inl (G.2.1, 1200, .inl (upd (fun _ => 0) 0 0))), (h0, .inr (6, [.int 0, .ref kd, .ref mo, .ref st, .int 0, .ref ro, .ref tp, .int 40, .ref cd, .ref sr, .int 0, .int 0, .int 0, .ref ir, .ref ih, .ref ss, .ref sq, .ref ce, .ref lw, .int 12, .int 11, .int 45, .int 0, .ref wo, .ref he, .int 0, .int 0, .int 1, .ref sk, .ref na, .ref kp, .int 0, .int 0, .int 0, .int 0, .ref gb, .ref go, .ref fa, .ref ga, .int 0, .int 0, .ref vo]))] := hD1
  obtain ⟨hP, hD⟩ := va_join (wr := []) (w1 := [(he, .inl (G.2.1, 200, .inl (fun _ => 0))), (cd, .inl (G.2.1, 1200, .inl (upd (fun _ => 0) 0 0))), (h0, .inr (6, [.int 0, .ref kd, .ref mo, .ref st, .int 0, .ref ro, .ref tp, .int 40, .ref cd, .ref sr, .int 0, .int 0, .int 0, .ref ir, .ref ih, .ref ss, .ref sq, .ref ce, .ref lw, .int 12, .int 11, .int 45, .int 0, .ref wo, .ref he, .int 0, .int 0, .int 1, .ref sk, .ref na, .ref kp, .int 0, .int 0, .int 0, .int 0, .ref gb, .ref go, .ref fa, .ref ga, .int 0, .int 0, .ref vo]))]) hP hD [0, 1, 2] [] rfl rfl (by decide) (by decide) hk1 hFc hP1 hD1
  have hP : va_P G.1 vwCl [(he, .inl (G.2.1, 200, .inl (fun _ => 0))), (cd, .inl (G.2.1, 1200, .inl (upd (fun _ => 0) 0 0))), (h0, .inr (6, [.int 0, .ref kd, .ref mo, .ref st, .int 0, .ref ro, .ref tp, .int 40, .ref cd, .ref sr, .int 0, .int 0, .int 0, .ref ir, .ref ih, .ref ss, .ref sq, .ref ce, .ref lw, .int 12, .int 11, .int 45, .int 0, .ref wo, .ref he, .int 0, .int 0, .int 1, .ref sk, .ref na, .ref kp, .int 0, .int 0, .int 0, .int 0, .ref gb, .ref go, .ref fa, .ref ga, .int 0, .int 0, .ref vo]))] H := hP
  have hD : va_D A [(he, .inl (G.2.1, 200, .inl (fun _ => 0))), (cd, .inl (G.2.1, 1200, .inl (upd (fun _ => 0) 0 0))), (h0, .inr (6, [.int 0, .ref kd, .ref mo, .ref st, .int 0, .ref ro, .ref tp, .int 40, .ref cd, .ref sr, .int 0, .int 0, .int 0, .ref ir, .ref ih, .ref ss, .ref sq, .ref ce, .ref lw, .int 12, .int 11, .int 45, .int 0, .ref wo, .ref he, .int 0, .int 0, .int 1, .ref sk, .ref na, .ref kp, .int 0, .int 0, .int 0, .int 0, .ref gb, .ref go, .ref fa, .ref ga, .int 0, .int 0, .ref vo]))] := hD
  refine lv_iload_n hx hb dX6_between_20 rfl (lv_at hl 1 rfl) ?_
  have hPc : va_P G.1 vwCl [] H := hP.sub [] rfl
  have hDc : va_D A [] := hD.sub [] (by decide) rfl
  have hFc := va_free (wc := []) hD hS hA [] rfl
  refine va_calli (va_runS (As := [.int 17]) (rest := []) ⟨hx, hb, hml, hown, hts⟩ (c_X6_rank_z20 l G H.size) (va_cwS 1 hts gX6_between_X6_rank rfl rfl rfl (by decide +kernel) ⟨Nat.le_of_ble_eq_true rfl, Nat.le_of_ble_eq_true rfl⟩) ⟨gPre_blind, fun U hU hW => gPre_of hU hW hK hPc hDc⟩ rfl rfl hl.1 rfl (lv_room (Nat.le_of_ble_eq_true rfl)) dX6_between_21 ⟨Nat.le_of_ble_eq_true rfl, Nat.le_of_ble_eq_true rfl⟩) hS (fun q _ h => hFc q h) hFc (fun r_8 u t H locs ht hvm w_9 hB hz1 hk1 hS => ?_)
  obtain ⟨hP1, hK1, hD1⟩ := hB
  rw [ht] at hP1
  have hP1 : va_P G.1 vwCl [] H := hP1
  have hD1 : va_D (va_A [] _) [] := hD1
  have w_9 : r_8 = 5 := w_9
  obtain ⟨hP, hD⟩ := va_join (wr := [(he, .inl (G.2.1, 200, .inl (fun _ => 0))), (cd, .inl (G.2.1, 1200, .inl (upd (fun _ => 0) 0 0))), (h0, .inr (6, [.int 0, .ref kd, .ref mo, .ref st, .int 0, .ref ro, .ref tp, .int 40, .ref cd, .ref sr, .int 0, .int 0, .int 0, .ref ir, .ref ih, .ref ss, .ref sq, .ref ce, .ref lw, .int 12, .int 11, .int 45, .int 0, .ref wo, .ref he, .int 0, .int 0, .int 1, .ref sk, .ref na, .ref kp, .int 0, .int 0, .int 0, .int 0, .ref gb, .ref go, .ref fa, .ref ga, .int 0, .int 0, .ref vo]))]) (w1 := []) hP hD [] [0, 1, 2] rfl rfl (by decide) (by decide) hk1 hFc hP1 hD1
  have hP : va_P G.1 vwCl [(he, .inl (G.2.1, 200, .inl (fun _ => 0))), (cd, .inl (G.2.1, 1200, .inl (upd (fun _ => 0) 0 0))), (h0, .inr (6, [.int 0, .ref kd, .ref mo, .ref st, .int 0, .ref ro, .ref tp, .int 40, .ref cd, .ref sr, .int 0, .int 0, .int 0, .ref ir, .ref ih, .ref ss, .ref sq, .ref ce, .ref lw, .int 12, .int 11, .int 45, .int 0, .ref wo, .ref he, .int 0, .int 0, .int 1, .ref sk, .ref na, .ref kp, .int 0, .int 0, .int 0, .int 0, .ref gb, .ref go, .ref fa, .ref ga, .int 0, .int 0, .ref vo]))] H := hP
  have hD : va_D A [(he, .inl (G.2.1, 200, .inl (fun _ => 0))), (cd, .inl (G.2.1, 1200, .inl (upd (fun _ => 0) 0 0))), (h0, .inr (6, [.int 0, .ref kd, .ref mo, .ref st, .int 0, .ref ro, .ref tp, .int 40, .ref cd, .ref sr, .int 0, .int 0, .int 0, .ref ir, .ref ih, .ref ss, .ref sq, .ref ce, .ref lw, .int 12, .int 11, .int 45, .int 0, .ref wo, .ref he, .int 0, .int 0, .int 1, .ref sk, .ref na, .ref kp, .int 0, .int 0, .int 0, .int 0, .ref gb, .ref go, .ref fa, .ref ga, .int 0, .int 0, .ref vo]))] := hD
  have w_9 : r_8 = 5 := w_9
  subst w_9
  refine lv_iconst (v := 4) hx hb dX6_between_24 (by decide) ?_
  refine lv_icmp_ne (tgt := 55) hx hb dX6_between_25 (by decide) (fun c_10 => ?_) (fun c_10 => ?_)
  rotate_left
  · exact absurd c_10 (by decide)
  refine lv_aload_n hx hb dX6_between_55 rfl (lv_at hl 0 rfl) ?_
  refine lv_iload_n hx hb dX6_between_56 rfl (lv_at hl 1 rfl) ?_
  have hPc : va_P G.1 vwCl [(he, .inl (G.2.1, 200, .inl (fun _ => 0))), (h0, .inr (6, [.int 0, .ref kd, .ref mo, .ref st, .int 0, .ref ro, .ref tp, .int 40, .ref cd, .ref sr, .int 0, .int 0, .int 0, .ref ir, .ref ih, .ref ss, .ref sq, .ref ce, .ref lw, .int 12, .int 11, .int 45, .int 0, .ref wo, .ref he, .int 0, .int 0, .int 1, .ref sk, .ref na, .ref kp, .int 0, .int 0, .int 0, .int 0, .ref gb, .ref go, .ref fa, .ref ga, .int 0, .int 0, .ref vo]))] H := hP.sub [0, 2] rfl
  have hDc : va_D A [(he, .inl (G.2.1, 200, .inl (fun _ => 0))), (h0, .inr (6, [.int 0, .ref kd, .ref mo, .ref st, .int 0, .ref ro, .ref tp, .int 40, .ref cd, .ref sr, .int 0, .int 0, .int 0, .ref ir, .ref ih, .ref ss, .ref sq, .ref ce, .ref lw, .int 12, .int 11, .int 45, .int 0, .ref wo, .ref he, .int 0, .int 0, .int 1, .ref sk, .ref na, .ref kp, .int 0, .int 0, .int 0, .int 0, .ref gb, .ref go, .ref fa, .ref ga, .int 0, .int 0, .ref vo]))] := hD.sub [0, 2] (by decide) rfl
  have hFc := va_free (wc := [(he, .inl (G.2.1, 200, .inl (fun _ => 0))), (h0, .inr (6, [.int 0, .ref kd, .ref mo, .ref st, .int 0, .ref ro, .ref tp, .int 40, .ref cd, .ref sr, .int 0, .int 0, .int 0, .ref ir, .ref ih, .ref ss, .ref sq, .ref ce, .ref lw, .int 12, .int 11, .int 45, .int 0, .ref wo, .ref he, .int 0, .int 0, .int 1, .ref sk, .ref na, .ref kp, .int 0, .int 0, .int 0, .int 0, .ref gb, .ref go, .ref fa, .ref ga, .int 0, .int 0, .ref vo]))]) hD hS hA [0, 2] rfl
  refine va_callv (va_runV (As := [.int 17]) (rest := []) ⟨hx, hb, hml, hown, hts⟩ (c_X6_holds_z22 l G h0 he kd mo st ro tp cd sr ir ih ss sq ce lw wo sk na kp gb go fa ga vo H.size) (cwV 1 hts gX6_between_X6_holds rfl rfl rfl (by decide +kernel) ⟨Nat.le_of_ble_eq_true rfl, Nat.le_of_ble_eq_true rfl⟩) ⟨gPre_blind, va_recv hK hPc (ci := 6) (q0 := 1) rfl rfl, fun U hU hW => gPre_of hU hW hK hPc hDc⟩ rfl rfl hl.1 rfl (lv_room (Nat.le_of_ble_eq_true rfl)) dX6_between_57 ⟨Nat.le_of_ble_eq_true rfl, Nat.le_of_ble_eq_true rfl⟩) hS (fun q _ h => hFc q h) hFc (fun u t H locs ht hvm w_12 hB hz1 hk1 hS => ?_)
  obtain ⟨hP1, hK1, hD1⟩ := hB
  rw [ht] at hP1
  have hP1 : va_P G.1 vwCl [(he, .inl (G.2.1, 200, .inl (upd (fun _ => 0) 0 17))), (h0, .inr (6, [.int 0, .ref kd, .ref mo, .ref st, .int 0, .ref ro, .ref tp, .int 40, .ref cd, .ref sr, .int 0, .int 0, .int 0, .ref ir, .ref ih, .ref ss, .ref sq, .ref ce, .ref lw, .int 12, .int 11, .int 45, .int 0, .ref wo, .ref he, .int 1, .int 0, .int 1, .ref sk, .ref na, .ref kp, .int 0, .int 0, .int 0, .int 0, .ref gb, .ref go, .ref fa, .ref ga, .int 0, .int 0, .ref vo]))] H := hP1
  have hD1 : va_D (va_A [(he, .inl (G.2.1, 200, .inl (fun _ => 0))), (h0, .inr (6, [.int 0, .ref kd, .ref mo, .ref st, .int 0, .ref ro, .ref tp, .int 40, .ref cd, .ref sr, .int 0, .int 0, .int 0, .ref ir, .ref ih, .ref ss, .ref sq, .ref ce, .ref lw, .int 12, .int 11, .int 45, .int 0, .ref wo, .ref he, .int 0, .int 0, .int 1, .ref sk, .ref na, .ref kp, .int 0, .int 0, .int 0, .int 0, .ref gb, .ref go, .ref fa, .ref ga, .int 0, .int 0, .ref vo]))] _) [(he, .inl (G.2.1, 200, .inl (upd (fun _ => 0) 0 17))), (h0, .inr (6, [.int 0, .ref kd, .ref mo, .ref st, .int 0, .ref ro, .ref tp, .int 40, .ref cd, .ref sr, .int 0, .int 0, .int 0, .ref ir, .ref ih, .ref ss, .ref sq, .ref ce, .ref lw, .int 12, .int 11, .int 45, .int 0, .ref wo, .ref he, .int 1, .int 0, .int 1, .ref sk, .ref na, .ref kp, .int 0, .int 0, .int 0, .int 0, .ref gb, .ref go, .ref fa, .ref ga, .int 0, .int 0, .ref vo]))] := hD1
  obtain ⟨hP, hD⟩ := va_join (wr := [(cd, .inl (G.2.1, 1200, .inl (upd (fun _ => 0) 0 0)))]) (w1 := [(he, .inl (G.2.1, 200, .inl (upd (fun _ => 0) 0 17))), (h0, .inr (6, [.int 0, .ref kd, .ref mo, .ref st, .int 0, .ref ro, .ref tp, .int 40, .ref cd, .ref sr, .int 0, .int 0, .int 0, .ref ir, .ref ih, .ref ss, .ref sq, .ref ce, .ref lw, .int 12, .int 11, .int 45, .int 0, .ref wo, .ref he, .int 1, .int 0, .int 1, .ref sk, .ref na, .ref kp, .int 0, .int 0, .int 0, .int 0, .ref gb, .ref go, .ref fa, .ref ga, .int 0, .int 0, .ref vo]))]) hP hD [0, 2] [1] rfl rfl (by decide) (by decide) hk1 hFc hP1 hD1
  have hP : va_P G.1 vwCl [(cd, .inl (G.2.1, 1200, .inl (upd (fun _ => 0) 0 0))), (he, .inl (G.2.1, 200, .inl (upd (fun _ => 0) 0 17))), (h0, .inr (6, [.int 0, .ref kd, .ref mo, .ref st, .int 0, .ref ro, .ref tp, .int 40, .ref cd, .ref sr, .int 0, .int 0, .int 0, .ref ir, .ref ih, .ref ss, .ref sq, .ref ce, .ref lw, .int 12, .int 11, .int 45, .int 0, .ref wo, .ref he, .int 1, .int 0, .int 1, .ref sk, .ref na, .ref kp, .int 0, .int 0, .int 0, .int 0, .ref gb, .ref go, .ref fa, .ref ga, .int 0, .int 0, .ref vo]))] H := hP
  have hD : va_D A [(cd, .inl (G.2.1, 1200, .inl (upd (fun _ => 0) 0 0))), (he, .inl (G.2.1, 200, .inl (upd (fun _ => 0) 0 17))), (h0, .inr (6, [.int 0, .ref kd, .ref mo, .ref st, .int 0, .ref ro, .ref tp, .int 40, .ref cd, .ref sr, .int 0, .int 0, .int 0, .ref ir, .ref ih, .ref ss, .ref sq, .ref ce, .ref lw, .int 12, .int 11, .int 45, .int 0, .ref wo, .ref he, .int 1, .int 0, .int 1, .ref sk, .ref na, .ref kp, .int 0, .int 0, .int 0, .int 0, .ref gb, .ref go, .ref fa, .ref ga, .int 0, .int 0, .ref vo]))] := hD
  refine lv_iconst (v := 1) hx hb dX6_between_60 (by decide) ?_
  have hP9 := hP.sub (ws' := [(he, .inl (G.2.1, 200, .inl (upd (fun _ => 0) 0 17))), (cd, .inl (G.2.1, 1200, .inl (upd (fun _ => 0) 0 0))), (h0, .inr (6, [.int 0, .ref kd, .ref mo, .ref st, .int 0, .ref ro, .ref tp, .int 40, .ref cd, .ref sr, .int 0, .int 0, .int 0, .ref ir, .ref ih, .ref ss, .ref sq, .ref ce, .ref lw, .int 12, .int 11, .int 45, .int 0, .ref wo, .ref he, .int 1, .int 0, .int 1, .ref sk, .ref na, .ref kp, .int 0, .int 0, .int 0, .int 0, .ref gb, .ref go, .ref fa, .ref ga, .int 0, .int 0, .ref vo]))]) [1, 0, 2] rfl
  have hD9 := hD.sub (ws' := [(he, .inl (G.2.1, 200, .inl (upd (fun _ => 0) 0 17))), (cd, .inl (G.2.1, 1200, .inl (upd (fun _ => 0) 0 0))), (h0, .inr (6, [.int 0, .ref kd, .ref mo, .ref st, .int 0, .ref ro, .ref tp, .int 40, .ref cd, .ref sr, .int 0, .int 0, .int 0, .ref ir, .ref ih, .ref ss, .ref sq, .ref ce, .ref lw, .int 12, .int 11, .int 45, .int 0, .ref wo, .ref he, .int 1, .int 0, .int 1, .ref sk, .ref na, .ref kp, .int 0, .int 0, .int 0, .int 0, .ref gb, .ref go, .ref fa, .ref ga, .int 0, .int 0, .ref vo]))]) [1, 0, 2] (by decide) rfl
  have hpost : (fun (r : Int32) (u : Unit) => match u with | _ => r = 1) 1 () := by first | rfl | trivial
  exact W.zret (v := 1) hx hb hr (rfl) (fun t ht hW => ⟨⟨1, (), rfl, hpost, by rw [ht]; exact hP9, va_K.moved hW.alike hK, hD9⟩, hS.F ht⟩) hS.2.2 dX6_between_61
abbrev q_X6_in_z24 (G : gG) (A : Nat → Prop) : Array Value → State → Outcome → State → Prop := va_Qi (fun (r : Int32) (u : Unit) => match u with | _ => r = 1) (fun (u : Unit) t => match u with | _ => va_P G.1 vwCl [] t.heap ∧ gK G t ∧ va_D A []) A
set_option maxHeartbeats 4000000 in
set_option maxRecDepth 100000 in
theorem c_X6_in_z24 (l : Launch) (G : gG) (sz : Nat) : Met l yX6_in wsX6_in ({ frames := 0, cells := 0, slots := 0, locals := 0 }) (gPre G [.int 114, .int 97, .int 122] [] sz) (q_X6_in_z24 G (va_A [] sz)) 0 0 (va_A [] sz) := by
  refine Met.ofW (cc := cX6_in) (maxL := 3) (ret := (some .boolean)) (by decide) rfl ?_
  intro p e s m args below meth c s₁ B hml hv
  obtain ⟨rfl, hsz, hP, hK, hD0⟩ := hv
  have hx := B.exec
  have hb := B.bytes
  have hr := B.returns
  have hts := atoms_spec (ws := wsX6_in) B.pre
  have hown : s.vm.findClass RX6 = some m.cls := findClass_of_methodNamed B.named
  have hlocks := B.notSynchronized
  subst hsz
  have hD := hD0.self (sz := s.heap.size)
  generalize hAe : va_A [] s.heap.size = A at hD ⊢
  have hA : ∀ q : Nat, s.heap.size ≤ q → A q := fun q h => by rw [← hAe]; exact Or.inr h
  have hS : va_S A s.heap s.heap [] := va_S.rf
  have hP : va_P G.1 vwCl [] s.heap := hP
  have hD : va_D A [] := hD
  have hl := lv_entry ([.int 114, .int 97, .int 122]) (n := 3) (Nat.le_of_ble_eq_true rfl)
  rw [lg_entry_eq]
  generalize (lg_sl ([.int 114, .int 97, .int 122]) ++ List.replicate (3 - (lg_sl ([.int 114, .int 97, .int 122])).length) Slot.unset).toArray = ls at hl ⊢
  have hl : lv_has ls 3 [(0, .int 114), (1, .int 97), (2, .int 122)] := hl
  refine lv_iload_n hx hb dX6_in_0 rfl (lv_at hl 0 rfl) ?_
  refine lv_iload_n hx hb dX6_in_1 rfl (lv_at hl 1 rfl) ?_
  refine lv_icmp_lt (tgt := 14) hx hb dX6_in_2 (by decide) (fun c_1 => ?_) (fun c_1 => ?_)
  · exact absurd c_1 (by decide)
  refine lv_iload_n hx hb dX6_in_5 rfl (lv_at hl 0 rfl) ?_
  refine lv_iload_n hx hb dX6_in_6 rfl (lv_at hl 2 rfl) ?_
  refine lv_icmp_gt (tgt := 14) hx hb dX6_in_7 (by decide) (fun c_2 => ?_) (fun c_2 => ?_)
  · exact absurd c_2 (by decide)
  refine lv_iconst (v := 1) hx hb dX6_in_10 (by decide) ?_
  refine lv_goto (tgt := 15) hx hb dX6_in_11 (by decide) ?_
  have hP9 := hP.sub (ws' := []) [] rfl
  have hD9 := hD.sub (ws' := []) [] (by decide) rfl
  have hpost : (fun (r : Int32) (u : Unit) => match u with | _ => r = 1) 1 () := by first | rfl | trivial
  exact W.zret (v := 1) hx hb hr (rfl) (fun t ht hW => ⟨⟨1, (), rfl, hpost, by rw [ht]; exact hP9, va_K.moved hW.alike hK, hD9⟩, hS.F ht⟩) hS.2.2 dX6_in_15
abbrev q_X6_in_z25 (G : gG) (A : Nat → Prop) : Array Value → State → Outcome → State → Prop := va_Qi (fun (r : Int32) (u : Unit) => match u with | _ => r = 1) (fun (u : Unit) t => match u with | _ => va_P G.1 vwCl [] t.heap ∧ gK G t ∧ va_D A []) A
set_option maxHeartbeats 4000000 in
set_option maxRecDepth 100000 in
theorem c_X6_in_z25 (l : Launch) (G : gG) (sz : Nat) : Met l yX6_in wsX6_in ({ frames := 0, cells := 0, slots := 0, locals := 0 }) (gPre G [.int 111, .int 97, .int 122] [] sz) (q_X6_in_z25 G (va_A [] sz)) 0 0 (va_A [] sz) := by
  refine Met.ofW (cc := cX6_in) (maxL := 3) (ret := (some .boolean)) (by decide) rfl ?_
  intro p e s m args below meth c s₁ B hml hv
  obtain ⟨rfl, hsz, hP, hK, hD0⟩ := hv
  have hx := B.exec
  have hb := B.bytes
  have hr := B.returns
  have hts := atoms_spec (ws := wsX6_in) B.pre
  have hown : s.vm.findClass RX6 = some m.cls := findClass_of_methodNamed B.named
  have hlocks := B.notSynchronized
  subst hsz
  have hD := hD0.self (sz := s.heap.size)
  generalize hAe : va_A [] s.heap.size = A at hD ⊢
  have hA : ∀ q : Nat, s.heap.size ≤ q → A q := fun q h => by rw [← hAe]; exact Or.inr h
  have hS : va_S A s.heap s.heap [] := va_S.rf
  have hP : va_P G.1 vwCl [] s.heap := hP
  have hD : va_D A [] := hD
  have hl := lv_entry ([.int 111, .int 97, .int 122]) (n := 3) (Nat.le_of_ble_eq_true rfl)
  rw [lg_entry_eq]
  generalize (lg_sl ([.int 111, .int 97, .int 122]) ++ List.replicate (3 - (lg_sl ([.int 111, .int 97, .int 122])).length) Slot.unset).toArray = ls at hl ⊢
  have hl : lv_has ls 3 [(0, .int 111), (1, .int 97), (2, .int 122)] := hl
  refine lv_iload_n hx hb dX6_in_0 rfl (lv_at hl 0 rfl) ?_
  refine lv_iload_n hx hb dX6_in_1 rfl (lv_at hl 1 rfl) ?_
  refine lv_icmp_lt (tgt := 14) hx hb dX6_in_2 (by decide) (fun c_1 => ?_) (fun c_1 => ?_)
  · exact absurd c_1 (by decide)
  refine lv_iload_n hx hb dX6_in_5 rfl (lv_at hl 0 rfl) ?_
  refine lv_iload_n hx hb dX6_in_6 rfl (lv_at hl 2 rfl) ?_
  refine lv_icmp_gt (tgt := 14) hx hb dX6_in_7 (by decide) (fun c_2 => ?_) (fun c_2 => ?_)
  · exact absurd c_2 (by decide)
  refine lv_iconst (v := 1) hx hb dX6_in_10 (by decide) ?_
  refine lv_goto (tgt := 15) hx hb dX6_in_11 (by decide) ?_
  have hP9 := hP.sub (ws' := []) [] rfl
  have hD9 := hD.sub (ws' := []) [] (by decide) rfl
  have hpost : (fun (r : Int32) (u : Unit) => match u with | _ => r = 1) 1 () := by first | rfl | trivial
  exact W.zret (v := 1) hx hb hr (rfl) (fun t ht hW => ⟨⟨1, (), rfl, hpost, by rw [ht]; exact hP9, va_K.moved hW.alike hK, hD9⟩, hS.F ht⟩) hS.2.2 dX6_in_15
abbrev q_X6_in_z26 (G : gG) (A : Nat → Prop) : Array Value → State → Outcome → State → Prop := va_Qi (fun (r : Int32) (u : Unit) => match u with | _ => r = 1) (fun (u : Unit) t => match u with | _ => va_P G.1 vwCl [] t.heap ∧ gK G t ∧ va_D A []) A
set_option maxHeartbeats 4000000 in
set_option maxRecDepth 100000 in
theorem c_X6_in_z26 (l : Launch) (G : gG) (sz : Nat) : Met l yX6_in wsX6_in ({ frames := 0, cells := 0, slots := 0, locals := 0 }) (gPre G [.int 117, .int 97, .int 122] [] sz) (q_X6_in_z26 G (va_A [] sz)) 0 0 (va_A [] sz) := by
  refine Met.ofW (cc := cX6_in) (maxL := 3) (ret := (some .boolean)) (by decide) rfl ?_
  intro p e s m args below meth c s₁ B hml hv
  obtain ⟨rfl, hsz, hP, hK, hD0⟩ := hv
  have hx := B.exec
  have hb := B.bytes
  have hr := B.returns
  have hts := atoms_spec (ws := wsX6_in) B.pre
  have hown : s.vm.findClass RX6 = some m.cls := findClass_of_methodNamed B.named
  have hlocks := B.notSynchronized
  subst hsz
  have hD := hD0.self (sz := s.heap.size)
  generalize hAe : va_A [] s.heap.size = A at hD ⊢
  have hA : ∀ q : Nat, s.heap.size ≤ q → A q := fun q h => by rw [← hAe]; exact Or.inr h
  have hS : va_S A s.heap s.heap [] := va_S.rf
  have hP : va_P G.1 vwCl [] s.heap := hP
  have hD : va_D A [] := hD
  have hl := lv_entry ([.int 117, .int 97, .int 122]) (n := 3) (Nat.le_of_ble_eq_true rfl)
  rw [lg_entry_eq]
  generalize (lg_sl ([.int 117, .int 97, .int 122]) ++ List.replicate (3 - (lg_sl ([.int 117, .int 97, .int 122])).length) Slot.unset).toArray = ls at hl ⊢
  have hl : lv_has ls 3 [(0, .int 117), (1, .int 97), (2, .int 122)] := hl
  refine lv_iload_n hx hb dX6_in_0 rfl (lv_at hl 0 rfl) ?_
  refine lv_iload_n hx hb dX6_in_1 rfl (lv_at hl 1 rfl) ?_
  refine lv_icmp_lt (tgt := 14) hx hb dX6_in_2 (by decide) (fun c_1 => ?_) (fun c_1 => ?_)
  · exact absurd c_1 (by decide)
  refine lv_iload_n hx hb dX6_in_5 rfl (lv_at hl 0 rfl) ?_
  refine lv_iload_n hx hb dX6_in_6 rfl (lv_at hl 2 rfl) ?_
  refine lv_icmp_gt (tgt := 14) hx hb dX6_in_7 (by decide) (fun c_2 => ?_) (fun c_2 => ?_)
  · exact absurd c_2 (by decide)
  refine lv_iconst (v := 1) hx hb dX6_in_10 (by decide) ?_
  refine lv_goto (tgt := 15) hx hb dX6_in_11 (by decide) ?_
  have hP9 := hP.sub (ws' := []) [] rfl
  have hD9 := hD.sub (ws' := []) [] (by decide) rfl
  have hpost : (fun (r : Int32) (u : Unit) => match u with | _ => r = 1) 1 () := by first | rfl | trivial
  exact W.zret (v := 1) hx hb hr (rfl) (fun t ht hW => ⟨⟨1, (), rfl, hpost, by rw [ht]; exact hP9, va_K.moved hW.alike hK, hD9⟩, hS.F ht⟩) hS.2.2 dX6_in_15
abbrev q_X6_in_z27 (G : gG) (A : Nat → Prop) : Array Value → State → Outcome → State → Prop := va_Qi (fun (r : Int32) (u : Unit) => match u with | _ => r = 1) (fun (u : Unit) t => match u with | _ => va_P G.1 vwCl [] t.heap ∧ gK G t ∧ va_D A []) A
set_option maxHeartbeats 4000000 in
set_option maxRecDepth 100000 in
theorem c_X6_in_z27 (l : Launch) (G : gG) (sz : Nat) : Met l yX6_in wsX6_in ({ frames := 0, cells := 0, slots := 0, locals := 0 }) (gPre G [.int 110, .int 97, .int 122] [] sz) (q_X6_in_z27 G (va_A [] sz)) 0 0 (va_A [] sz) := by
  refine Met.ofW (cc := cX6_in) (maxL := 3) (ret := (some .boolean)) (by decide) rfl ?_
  intro p e s m args below meth c s₁ B hml hv
  obtain ⟨rfl, hsz, hP, hK, hD0⟩ := hv
  have hx := B.exec
  have hb := B.bytes
  have hr := B.returns
  have hts := atoms_spec (ws := wsX6_in) B.pre
  have hown : s.vm.findClass RX6 = some m.cls := findClass_of_methodNamed B.named
  have hlocks := B.notSynchronized
  subst hsz
  have hD := hD0.self (sz := s.heap.size)
  generalize hAe : va_A [] s.heap.size = A at hD ⊢
  have hA : ∀ q : Nat, s.heap.size ≤ q → A q := fun q h => by rw [← hAe]; exact Or.inr h
  have hS : va_S A s.heap s.heap [] := va_S.rf
  have hP : va_P G.1 vwCl [] s.heap := hP
  have hD : va_D A [] := hD
  have hl := lv_entry ([.int 110, .int 97, .int 122]) (n := 3) (Nat.le_of_ble_eq_true rfl)
  rw [lg_entry_eq]
  generalize (lg_sl ([.int 110, .int 97, .int 122]) ++ List.replicate (3 - (lg_sl ([.int 110, .int 97, .int 122])).length) Slot.unset).toArray = ls at hl ⊢
  have hl : lv_has ls 3 [(0, .int 110), (1, .int 97), (2, .int 122)] := hl
  refine lv_iload_n hx hb dX6_in_0 rfl (lv_at hl 0 rfl) ?_
  refine lv_iload_n hx hb dX6_in_1 rfl (lv_at hl 1 rfl) ?_
  refine lv_icmp_lt (tgt := 14) hx hb dX6_in_2 (by decide) (fun c_1 => ?_) (fun c_1 => ?_)
  · exact absurd c_1 (by decide)
  refine lv_iload_n hx hb dX6_in_5 rfl (lv_at hl 0 rfl) ?_
  refine lv_iload_n hx hb dX6_in_6 rfl (lv_at hl 2 rfl) ?_
  refine lv_icmp_gt (tgt := 14) hx hb dX6_in_7 (by decide) (fun c_2 => ?_) (fun c_2 => ?_)
  · exact absurd c_2 (by decide)
  refine lv_iconst (v := 1) hx hb dX6_in_10 (by decide) ?_
  refine lv_goto (tgt := 15) hx hb dX6_in_11 (by decide) ?_
  have hP9 := hP.sub (ws' := []) [] rfl
  have hD9 := hD.sub (ws' := []) [] (by decide) rfl
  have hpost : (fun (r : Int32) (u : Unit) => match u with | _ => r = 1) 1 () := by first | rfl | trivial
  exact W.zret (v := 1) hx hb hr (rfl) (fun t ht hW => ⟨⟨1, (), rfl, hpost, by rw [ht]; exact hP9, va_K.moved hW.alike hK, hD9⟩, hS.F ht⟩) hS.2.2 dX6_in_15
abbrev q_X6_in_z28 (G : gG) (A : Nat → Prop) : Array Value → State → Outcome → State → Prop := va_Qi (fun (r : Int32) (u : Unit) => match u with | _ => r = 1) (fun (u : Unit) t => match u with | _ => va_P G.1 vwCl [] t.heap ∧ gK G t ∧ va_D A []) A
set_option maxHeartbeats 4000000 in
set_option maxRecDepth 100000 in
theorem c_X6_in_z28 (l : Launch) (G : gG) (sz : Nat) : Met l yX6_in wsX6_in ({ frames := 0, cells := 0, slots := 0, locals := 0 }) (gPre G [.int 100, .int 97, .int 122] [] sz) (q_X6_in_z28 G (va_A [] sz)) 0 0 (va_A [] sz) := by
  refine Met.ofW (cc := cX6_in) (maxL := 3) (ret := (some .boolean)) (by decide) rfl ?_
  intro p e s m args below meth c s₁ B hml hv
  obtain ⟨rfl, hsz, hP, hK, hD0⟩ := hv
  have hx := B.exec
  have hb := B.bytes
  have hr := B.returns
  have hts := atoms_spec (ws := wsX6_in) B.pre
  have hown : s.vm.findClass RX6 = some m.cls := findClass_of_methodNamed B.named
  have hlocks := B.notSynchronized
  subst hsz
  have hD := hD0.self (sz := s.heap.size)
  generalize hAe : va_A [] s.heap.size = A at hD ⊢
  have hA : ∀ q : Nat, s.heap.size ≤ q → A q := fun q h => by rw [← hAe]; exact Or.inr h
  have hS : va_S A s.heap s.heap [] := va_S.rf
  have hP : va_P G.1 vwCl [] s.heap := hP
  have hD : va_D A [] := hD
  have hl := lv_entry ([.int 100, .int 97, .int 122]) (n := 3) (Nat.le_of_ble_eq_true rfl)
  rw [lg_entry_eq]
  generalize (lg_sl ([.int 100, .int 97, .int 122]) ++ List.replicate (3 - (lg_sl ([.int 100, .int 97, .int 122])).length) Slot.unset).toArray = ls at hl ⊢
  have hl : lv_has ls 3 [(0, .int 100), (1, .int 97), (2, .int 122)] := hl
  refine lv_iload_n hx hb dX6_in_0 rfl (lv_at hl 0 rfl) ?_
  refine lv_iload_n hx hb dX6_in_1 rfl (lv_at hl 1 rfl) ?_
  refine lv_icmp_lt (tgt := 14) hx hb dX6_in_2 (by decide) (fun c_1 => ?_) (fun c_1 => ?_)
  · exact absurd c_1 (by decide)
  refine lv_iload_n hx hb dX6_in_5 rfl (lv_at hl 0 rfl) ?_
  refine lv_iload_n hx hb dX6_in_6 rfl (lv_at hl 2 rfl) ?_
  refine lv_icmp_gt (tgt := 14) hx hb dX6_in_7 (by decide) (fun c_2 => ?_) (fun c_2 => ?_)
  · exact absurd c_2 (by decide)
  refine lv_iconst (v := 1) hx hb dX6_in_10 (by decide) ?_
  refine lv_goto (tgt := 15) hx hb dX6_in_11 (by decide) ?_
  have hP9 := hP.sub (ws' := []) [] rfl
  have hD9 := hD.sub (ws' := []) [] (by decide) rfl
  have hpost : (fun (r : Int32) (u : Unit) => match u with | _ => r = 1) 1 () := by first | rfl | trivial
  exact W.zret (v := 1) hx hb hr (rfl) (fun t ht hW => ⟨⟨1, (), rfl, hpost, by rw [ht]; exact hP9, va_K.moved hW.alike hK, hD9⟩, hS.F ht⟩) hS.2.2 dX6_in_15
abbrev q_X6_wordFrom_z29 (G : gG) (h0 tp wo kd mo st ro cd sr ir ih ss sq ce lw he sk na kp gb go fa ga vo : Nat) (A : Nat → Prop) : Array Value → State → Outcome → State → Prop := va_Qi (fun (r : Int32) (u : Unit) => match u with | _ => r = 4) (fun (u : Unit) t => match u with | _ => va_P G.1 vwCl [(tp, .inl (G.2.1, 160, .inl (gPf tB 40))), (wo, .inl (G.2.1, 96, .inl (gPf tW 96))), (h0, .inr (6, [.int 0, .ref kd, .ref mo, .ref st, .int 0, .ref ro, .ref tp, .int 40, .ref cd, .ref sr, .int 0, .int 0, .int 0, .ref ir, .ref ih, .ref ss, .ref sq, .ref ce, .ref lw, .int 18, .int 13, .int 0, .int 0, .ref wo, .ref he, .int 1, .int 0, .int 1, .ref sk, .ref na, .ref kp, .int 0, .int 0, .int 0, .int 0, .ref gb, .ref go, .ref fa, .ref ga, .int 0, .int 0, .ref vo]))] t.heap ∧ gK G t ∧ va_D A [(tp, .inl (G.2.1, 160, .inl (gPf tB 40))), (wo, .inl (G.2.1, 96, .inl (gPf tW 96))), (h0, .inr (6, [.int 0, .ref kd, .ref mo, .ref st, .int 0, .ref ro, .ref tp, .int 40, .ref cd, .ref sr, .int 0, .int 0, .int 0, .ref ir, .ref ih, .ref ss, .ref sq, .ref ce, .ref lw, .int 18, .int 13, .int 0, .int 0, .ref wo, .ref he, .int 1, .int 0, .int 1, .ref sk, .ref na, .ref kp, .int 0, .int 0, .int 0, .int 0, .ref gb, .ref go, .ref fa, .ref ga, .int 0, .int 0, .ref vo]))]) A
set_option maxHeartbeats 4000000 in
set_option maxRecDepth 100000 in
theorem c_X6_wordFrom_z29 (l : Launch) (G : gG) (h0 tp wo kd mo st ro cd sr ir ih ss sq ce lw he sk na kp gb go fa ga vo : Nat) (sz : Nat) : Met l yX6_wordFrom wsX6_wordFrom ({ frames := 0, cells := 0, slots := 0, locals := 0 }) (gPre G [.ref h0, .int 13, .int 18] [(tp, .inl (G.2.1, 160, .inl (gPf tB 40))), (wo, .inl (G.2.1, 96, .inl (gPf tW 96))), (h0, .inr (6, [.int 0, .ref kd, .ref mo, .ref st, .int 0, .ref ro, .ref tp, .int 40, .ref cd, .ref sr, .int 0, .int 0, .int 0, .ref ir, .ref ih, .ref ss, .ref sq, .ref ce, .ref lw, .int 18, .int 13, .int 0, .int 0, .ref wo, .ref he, .int 1, .int 0, .int 1, .ref sk, .ref na, .ref kp, .int 0, .int 0, .int 0, .int 0, .ref gb, .ref go, .ref fa, .ref ga, .int 0, .int 0, .ref vo]))] sz) (q_X6_wordFrom_z29 G h0 tp wo kd mo st ro cd sr ir ih ss sq ce lw he sk na kp gb go fa ga vo (va_A [(tp, .inl (G.2.1, 160, .inl (gPf tB 40))), (wo, .inl (G.2.1, 96, .inl (gPf tW 96))), (h0, .inr (6, [.int 0, .ref kd, .ref mo, .ref st, .int 0, .ref ro, .ref tp, .int 40, .ref cd, .ref sr, .int 0, .int 0, .int 0, .ref ir, .ref ih, .ref ss, .ref sq, .ref ce, .ref lw, .int 18, .int 13, .int 0, .int 0, .ref wo, .ref he, .int 1, .int 0, .int 1, .ref sk, .ref na, .ref kp, .int 0, .int 0, .int 0, .int 0, .ref gb, .ref go, .ref fa, .ref ga, .int 0, .int 0, .ref vo]))] sz)) 0 0 (va_A [(tp, .inl (G.2.1, 160, .inl (gPf tB 40))), (wo, .inl (G.2.1, 96, .inl (gPf tW 96))), (h0, .inr (6, [.int 0, .ref kd, .ref mo, .ref st, .int 0, .ref ro, .ref tp, .int 40, .ref cd, .ref sr, .int 0, .int 0, .int 0, .ref ir, .ref ih, .ref ss, .ref sq, .ref ce, .ref lw, .int 18, .int 13, .int 0, .int 0, .ref wo, .ref he, .int 1, .int 0, .int 1, .ref sk, .ref na, .ref kp, .int 0, .int 0, .int 0, .int 0, .ref gb, .ref go, .ref fa, .ref ga, .int 0, .int 0, .ref vo]))] sz) := by
  refine Met.ofW (cc := cX6_wordFrom) (maxL := 6) (ret := (some .int)) (by decide) rfl ?_
  intro p e s m args below meth c s₁ B hml hv
  obtain ⟨rfl, hsz, hP, hK, hD0⟩ := hv
  have hx := B.exec
  have hb := B.bytes
  have hr := B.returns
  have hts := atoms_spec (ws := wsX6_wordFrom) B.pre
  have hown : s.vm.findClass RX6 = some m.cls := findClass_of_methodNamed B.named
  have hlocks := B.notSynchronized
  subst hsz
  have hD := hD0.self (sz := s.heap.size)
  generalize hAe : va_A [(tp, .inl (G.2.1, 160, .inl (gPf tB 40))), (wo, .inl (G.2.1, 96, .inl (gPf tW 96))), (h0, .inr (6, [.int 0, .ref kd, .ref mo, .ref st, .int 0, .ref ro, .ref tp, .int 40, .ref cd, .ref sr, .int 0, .int 0, .int 0, .ref ir, .ref ih, .ref ss, .ref sq, .ref ce, .ref lw, .int 18, .int 13, .int 0, .int 0, .ref wo, .ref he, .int 1, .int 0, .int 1, .ref sk, .ref na, .ref kp, .int 0, .int 0, .int 0, .int 0, .ref gb, .ref go, .ref fa, .ref ga, .int 0, .int 0, .ref vo]))] s.heap.size = A at hD ⊢
  have hA : ∀ q : Nat, s.heap.size ≤ q → A q := fun q h => by rw [← hAe]; exact Or.inr h
  have hS : va_S A s.heap s.heap [] := va_S.rf
  have hP : va_P G.1 vwCl [(tp, .inl (G.2.1, 160, .inl (gPf tB 40))), (wo, .inl (G.2.1, 96, .inl (gPf tW 96))), (h0, .inr (6, [.int 0, .ref kd, .ref mo, .ref st, .int 0, .ref ro, .ref tp, .int 40, .ref cd, .ref sr, .int 0, .int 0, .int 0, .ref ir, .ref ih, .ref ss, .ref sq, .ref ce, .ref lw, .int 18, .int 13, .int 0, .int 0, .ref wo, .ref he, .int 1, .int 0, .int 1, .ref sk, .ref na, .ref kp, .int 0, .int 0, .int 0, .int 0, .ref gb, .ref go, .ref fa, .ref ga, .int 0, .int 0, .ref vo]))] s.heap := hP
  have hD : va_D A [(tp, .inl (G.2.1, 160, .inl (gPf tB 40))), (wo, .inl (G.2.1, 96, .inl (gPf tW 96))), (h0, .inr (6, [.int 0, .ref kd, .ref mo, .ref st, .int 0, .ref ro, .ref tp, .int 40, .ref cd, .ref sr, .int 0, .int 0, .int 0, .ref ir, .ref ih, .ref ss, .ref sq, .ref ce, .ref lw, .int 18, .int 13, .int 0, .int 0, .ref wo, .ref he, .int 1, .int 0, .int 1, .ref sk, .ref na, .ref kp, .int 0, .int 0, .int 0, .int 0, .ref gb, .ref go, .ref fa, .ref ga, .int 0, .int 0, .ref vo]))] := hD
  have hl := lv_entry ([.ref h0, .int 13, .int 18]) (n := 6) (Nat.le_of_ble_eq_true rfl)
  rw [lg_entry_eq]
  generalize (lg_sl ([.ref h0, .int 13, .int 18]) ++ List.replicate (6 - (lg_sl ([.ref h0, .int 13, .int 18])).length) Slot.unset).toArray = ls at hl ⊢
  have hl : lv_has ls 6 [(0, .ref h0), (1, .int 13), (2, .int 18)] := hl
  have kf49 := hts (.fieldLink RX6 49 "PebbleInShoeModel" "words" "[I") (by decide +kernel)
  have hiX6 := (by decide +kernel : ∀ w ∈ wsX60, w ∈ wsX6_wordFrom)
  have kf22 := hts (.fieldLink RX6 22 "PebbleInShoeModel" "tape" "[I") (by decide +kernel)
  refine lv_iconst (v := 0) hx hb dX6_wordFrom_0 (by decide) ?_
  refine lv_istore_n (lv' := [(3, .int 0), (0, .ref h0), (1, .int 13), (2, .int 18)]) hx hb dX6_wordFrom_1 rfl hl (by decide) rfl (fun ls hl => ?_)
  refine lv_iload_n hx hb dX6_wordFrom_2 rfl (lv_at hl 0 rfl) ?_
  refine lv_bipush (v := 12) hx hb dX6_wordFrom_3 (by decide) ?_
  refine lv_icmp_ge (tgt := 101) hx hb dX6_wordFrom_5 (by decide) (fun c_1 => ?_) (fun c_1 => ?_)
  · exact absurd c_1 (by decide)
  refine lv_iload_n hx hb dX6_wordFrom_8 rfl (lv_at hl 3 rfl) ?_
  refine lv_iload_n hx hb dX6_wordFrom_9 rfl (lv_at hl 2 rfl) ?_
  refine lv_isub hx hb dX6_wordFrom_10 ?_
  refine lv_topi (fun v_2 ev_2 => ?_)
  have ev_2 : v_2 = 5 := ev_2.trans (by decide)
  subst ev_2
  refine lv_bipush (v := 8) hx hb dX6_wordFrom_11 (by decide) ?_
  refine lv_icmp_gt (tgt := 20) hx hb dX6_wordFrom_13 (by decide) (fun c_3 => ?_) (fun c_3 => ?_)
  · exact absurd c_3 (by decide)
  refine lv_iconst (v := 1) hx hb dX6_wordFrom_16 (by decide) ?_
  refine lv_goto (tgt := 21) hx hb dX6_wordFrom_17 (by decide) ?_
  refine lv_istore (lv' := [(4, .int 1), (3, .int 0), (0, .ref h0), (1, .int 13), (2, .int 18)]) hx hb dX6_wordFrom_21 hl (by decide) rfl (fun ls hl => ?_)
  refine lv_iconst (v := 0) hx hb dX6_wordFrom_23 (by decide) ?_
  refine lv_istore (lv' := [(5, .int 0), (4, .int 1), (3, .int 0), (0, .ref h0), (1, .int 13), (2, .int 18)]) hx hb dX6_wordFrom_24 hl (by decide) rfl (fun ls hl => ?_)
  refine lv_iload hx hb dX6_wordFrom_26 (lv_at hl 0 rfl) ?_
  refine lv_bipush (v := 8) hx hb dX6_wordFrom_28 (by decide) ?_
  refine lv_icmp_ge (tgt := 88) hx hb dX6_wordFrom_30 (by decide) (fun c_4 => ?_) (fun c_4 => ?_)
  · exact absurd c_4 (by decide)
  refine lv_iload hx hb dX6_wordFrom_33 (lv_at hl 1 rfl) ?_
  refine lv_if_eq (tgt := 88) hx hb dX6_wordFrom_35 (by decide) (fun c_5 => ?_) (fun c_5 => ?_)
  · exact absurd c_5 (by decide)
  refine lv_aload_n hx hb dX6_wordFrom_38 rfl (lv_at hl 3 rfl) ?_
  refine va_get (D := G.1) (ci := 6) (v := .ref wo) (C := RX6) (T := TX6) (N := 42) hx hb hts hiX6 hown hK hP 2 rfl rfl 23 (by decide) kf49 (fun _ h9 => h9) rfl dX6_wordFrom_39 ?_
  refine lv_bipush (v := 8) hx hb dX6_wordFrom_42 (by decide) ?_
  refine lv_iload_n hx hb dX6_wordFrom_44 rfl (lv_at hl 2 rfl) ?_
  refine lv_imul hx hb dX6_wordFrom_45 ?_
  refine lv_topi (fun v_6 ev_6 => ?_)
  have ev_6 : v_6 = 0 := ev_6.trans (by decide)
  subst ev_6
  refine lv_iload hx hb dX6_wordFrom_46 (lv_at hl 0 rfl) ?_
  refine lv_iadd hx hb dX6_wordFrom_48 ?_
  refine lv_topi (fun v_7 ev_7 => ?_)
  have ev_7 : v_7 = 0 := ev_7.trans (by decide)
  subst ev_7
  refine va_iald (D := G.1) hx hb hK hP 1 0 rfl rfl (i := 0) (gIn (by decide)) dX6_wordFrom_49 ?_
  refine lv_topi (fun v_8 ev_8 => ?_)
  have ev_8 : v_8 = 102 := ev_8.trans (by decide)
  subst ev_8
  refine lv_iload_n hx hb dX6_wordFrom_50 rfl (lv_at hl 4 rfl) ?_
  refine lv_iload hx hb dX6_wordFrom_51 (lv_at hl 0 rfl) ?_
  refine lv_iadd hx hb dX6_wordFrom_53 ?_
  refine lv_topi (fun v_9 ev_9 => ?_)
  have ev_9 : v_9 = 13 := ev_9.trans (by decide)
  subst ev_9
  refine lv_iload_n hx hb dX6_wordFrom_54 rfl (lv_at hl 5 rfl) ?_
  refine lv_icmp_ge (tgt := 70) hx hb dX6_wordFrom_55 (by decide) (fun c_10 => ?_) (fun c_10 => ?_)
  · exact absurd c_10 (by decide)
  refine lv_aload_n hx hb dX6_wordFrom_58 rfl (lv_at hl 3 rfl) ?_
  refine va_get (D := G.1) (ci := 6) (v := .ref tp) (C := RX6) (T := TX6) (N := 42) hx hb hts hiX6 hown hK hP 2 rfl rfl 6 (by decide) kf22 (fun _ h9 => h9) rfl dX6_wordFrom_59 ?_
  refine lv_iload_n hx hb dX6_wordFrom_62 rfl (lv_at hl 4 rfl) ?_
  refine lv_iload hx hb dX6_wordFrom_63 (lv_at hl 0 rfl) ?_
  refine lv_iadd hx hb dX6_wordFrom_65 ?_
  refine lv_topi (fun v_11 ev_11 => ?_)
  have ev_11 : v_11 = 13 := ev_11.trans (by decide)
  subst ev_11
  refine va_iald (D := G.1) hx hb hK hP 0 0 rfl rfl (i := 13) (gIn (by decide)) dX6_wordFrom_66 ?_
  refine lv_topi (fun v_12 ev_12 => ?_)
  have ev_12 : v_12 = 114 := ev_12.trans (by decide)
  subst ev_12
  refine lv_goto (tgt := 72) hx hb dX6_wordFrom_67 (by decide) ?_
  refine lv_icmp_ne (tgt := 79) hx hb dX6_wordFrom_72 (by decide) (fun c_13 => ?_) (fun c_13 => ?_)
  rotate_left
  · exact absurd c_13 (by decide)
  refine lv_iconst (v := 0) hx hb dX6_wordFrom_79 (by decide) ?_
  refine lv_istore (lv' := [(4, .int 0), (5, .int 0), (3, .int 0), (0, .ref h0), (1, .int 13), (2, .int 18)]) hx hb dX6_wordFrom_80 hl (by decide) rfl (fun ls hl => ?_)
  refine lv_iinc (v := 1) (lv' := [(5, .int 1), (4, .int 0), (3, .int 0), (0, .ref h0), (1, .int 13), (2, .int 18)]) hx hb dX6_wordFrom_82 hl (k := 1) rfl (by decide) (by decide) rfl (fun ls hl => ?_)
  refine lv_goto (tgt := 26) hx hb dX6_wordFrom_85 (by decide) ?_
  refine lv_iload hx hb dX6_wordFrom_26 (lv_at hl 0 rfl) ?_
  refine lv_bipush (v := 8) hx hb dX6_wordFrom_28 (by decide) ?_
  refine lv_icmp_ge (tgt := 88) hx hb dX6_wordFrom_30 (by decide) (fun c_14 => ?_) (fun c_14 => ?_)
  · exact absurd c_14 (by decide)
  refine lv_iload hx hb dX6_wordFrom_33 (lv_at hl 1 rfl) ?_
  refine lv_if_eq (tgt := 88) hx hb dX6_wordFrom_35 (by decide) (fun c_15 => ?_) (fun c_15 => ?_)
  rotate_left
  · exact absurd (by decide) c_15
  refine lv_iload hx hb dX6_wordFrom_88 (lv_at hl 1 rfl) ?_
  refine lv_if_eq (tgt := 95) hx hb dX6_wordFrom_90 (by decide) (fun c_16 => ?_) (fun c_16 => ?_)
  rotate_left
  · exact absurd (by decide) c_16
  refine lv_iinc (v := 1) (lv' := [(3, .int 1), (5, .int 1), (4, .int 0), (0, .ref h0), (1, .int 13), (2, .int 18)]) hx hb dX6_wordFrom_95 hl (k := 2) rfl (by decide) (by decide) rfl (fun ls hl => ?_)
  refine lv_goto (tgt := 2) hx hb dX6_wordFrom_98 (by decide) ?_
  refine lv_iload_n hx hb dX6_wordFrom_2 rfl (lv_at hl 0 rfl) ?_
  refine lv_bipush (v := 12) hx hb dX6_wordFrom_3 (by decide) ?_
  refine lv_icmp_ge (tgt := 101) hx hb dX6_wordFrom_5 (by decide) (fun c_17 => ?_) (fun c_17 => ?_)
  · exact absurd c_17 (by decide)
  refine lv_iload_n hx hb dX6_wordFrom_8 rfl (lv_at hl 5 rfl) ?_
  refine lv_iload_n hx hb dX6_wordFrom_9 rfl (lv_at hl 4 rfl) ?_
  refine lv_isub hx hb dX6_wordFrom_10 ?_
  refine lv_topi (fun v_18 ev_18 => ?_)
  have ev_18 : v_18 = 5 := ev_18.trans (by decide)
  subst ev_18
  refine lv_bipush (v := 8) hx hb dX6_wordFrom_11 (by decide) ?_
  refine lv_icmp_gt (tgt := 20) hx hb dX6_wordFrom_13 (by decide) (fun c_19 => ?_) (fun c_19 => ?_)
  · exact absurd c_19 (by decide)
  refine lv_iconst (v := 1) hx hb dX6_wordFrom_16 (by decide) ?_
  refine lv_goto (tgt := 21) hx hb dX6_wordFrom_17 (by decide) ?_
  refine lv_istore (lv' := [(4, .int 1), (3, .int 1), (5, .int 1), (0, .ref h0), (1, .int 13), (2, .int 18)]) hx hb dX6_wordFrom_21 hl (by decide) rfl (fun ls hl => ?_)
  refine lv_iconst (v := 0) hx hb dX6_wordFrom_23 (by decide) ?_
  refine lv_istore (lv' := [(5, .int 0), (4, .int 1), (3, .int 1), (0, .ref h0), (1, .int 13), (2, .int 18)]) hx hb dX6_wordFrom_24 hl (by decide) rfl (fun ls hl => ?_)
  refine lv_iload hx hb dX6_wordFrom_26 (lv_at hl 0 rfl) ?_
  refine lv_bipush (v := 8) hx hb dX6_wordFrom_28 (by decide) ?_
  refine lv_icmp_ge (tgt := 88) hx hb dX6_wordFrom_30 (by decide) (fun c_20 => ?_) (fun c_20 => ?_)
  · exact absurd c_20 (by decide)
  refine lv_iload hx hb dX6_wordFrom_33 (lv_at hl 1 rfl) ?_
  refine lv_if_eq (tgt := 88) hx hb dX6_wordFrom_35 (by decide) (fun c_21 => ?_) (fun c_21 => ?_)
  · exact absurd c_21 (by decide)
  refine lv_aload_n hx hb dX6_wordFrom_38 rfl (lv_at hl 3 rfl) ?_
  refine va_get (D := G.1) (ci := 6) (v := .ref wo) (C := RX6) (T := TX6) (N := 42) hx hb hts hiX6 hown hK hP 2 rfl rfl 23 (by decide) kf49 (fun _ h9 => h9) rfl dX6_wordFrom_39 ?_
  refine lv_bipush (v := 8) hx hb dX6_wordFrom_42 (by decide) ?_
  refine lv_iload_n hx hb dX6_wordFrom_44 rfl (lv_at hl 2 rfl) ?_
  refine lv_imul hx hb dX6_wordFrom_45 ?_
  refine lv_topi (fun v_22 ev_22 => ?_)
  have ev_22 : v_22 = 8 := ev_22.trans (by decide)
  subst ev_22
  refine lv_iload hx hb dX6_wordFrom_46 (lv_at hl 0 rfl) ?_
  refine lv_iadd hx hb dX6_wordFrom_48 ?_
  refine lv_topi (fun v_23 ev_23 => ?_)
  have ev_23 : v_23 = 8 := ev_23.trans (by decide)
  subst ev_23
  refine va_iald (D := G.1) hx hb hK hP 1 0 rfl rfl (i := 8) (gIn (by decide)) dX6_wordFrom_49 ?_
  refine lv_topi (fun v_24 ev_24 => ?_)
  have ev_24 : v_24 = 119 := ev_24.trans (by decide)
  subst ev_24
  refine lv_iload_n hx hb dX6_wordFrom_50 rfl (lv_at hl 4 rfl) ?_
  refine lv_iload hx hb dX6_wordFrom_51 (lv_at hl 0 rfl) ?_
  refine lv_iadd hx hb dX6_wordFrom_53 ?_
  refine lv_topi (fun v_25 ev_25 => ?_)
  have ev_25 : v_25 = 13 := ev_25.trans (by decide)
  subst ev_25
  refine lv_iload_n hx hb dX6_wordFrom_54 rfl (lv_at hl 5 rfl) ?_
  refine lv_icmp_ge (tgt := 70) hx hb dX6_wordFrom_55 (by decide) (fun c_26 => ?_) (fun c_26 => ?_)
  · exact absurd c_26 (by decide)
  refine lv_aload_n hx hb dX6_wordFrom_58 rfl (lv_at hl 3 rfl) ?_
  refine va_get (D := G.1) (ci := 6) (v := .ref tp) (C := RX6) (T := TX6) (N := 42) hx hb hts hiX6 hown hK hP 2 rfl rfl 6 (by decide) kf22 (fun _ h9 => h9) rfl dX6_wordFrom_59 ?_
  refine lv_iload_n hx hb dX6_wordFrom_62 rfl (lv_at hl 4 rfl) ?_
  refine lv_iload hx hb dX6_wordFrom_63 (lv_at hl 0 rfl) ?_
  refine lv_iadd hx hb dX6_wordFrom_65 ?_
  refine lv_topi (fun v_27 ev_27 => ?_)
  have ev_27 : v_27 = 13 := ev_27.trans (by decide)
  subst ev_27
  refine va_iald (D := G.1) hx hb hK hP 0 0 rfl rfl (i := 13) (gIn (by decide)) dX6_wordFrom_66 ?_
  refine lv_topi (fun v_28 ev_28 => ?_)
  have ev_28 : v_28 = 114 := ev_28.trans (by decide)
  subst ev_28
  refine lv_goto (tgt := 72) hx hb dX6_wordFrom_67 (by decide) ?_
  refine lv_icmp_ne (tgt := 79) hx hb dX6_wordFrom_72 (by decide) (fun c_29 => ?_) (fun c_29 => ?_)
  rotate_left
  · exact absurd c_29 (by decide)
  refine lv_iconst (v := 0) hx hb dX6_wordFrom_79 (by decide) ?_
  refine lv_istore (lv' := [(4, .int 0), (5, .int 0), (3, .int 1), (0, .ref h0), (1, .int 13), (2, .int 18)]) hx hb dX6_wordFrom_80 hl (by decide) rfl (fun ls hl => ?_)
  refine lv_iinc (v := 1) (lv' := [(5, .int 1), (4, .int 0), (3, .int 1), (0, .ref h0), (1, .int 13), (2, .int 18)]) hx hb dX6_wordFrom_82 hl (k := 1) rfl (by decide) (by decide) rfl (fun ls hl => ?_)
  refine lv_goto (tgt := 26) hx hb dX6_wordFrom_85 (by decide) ?_
  refine lv_iload hx hb dX6_wordFrom_26 (lv_at hl 0 rfl) ?_
  refine lv_bipush (v := 8) hx hb dX6_wordFrom_28 (by decide) ?_
  refine lv_icmp_ge (tgt := 88) hx hb dX6_wordFrom_30 (by decide) (fun c_30 => ?_) (fun c_30 => ?_)
  · exact absurd c_30 (by decide)
  refine lv_iload hx hb dX6_wordFrom_33 (lv_at hl 1 rfl) ?_
  refine lv_if_eq (tgt := 88) hx hb dX6_wordFrom_35 (by decide) (fun c_31 => ?_) (fun c_31 => ?_)
  rotate_left
  · exact absurd (by decide) c_31
  refine lv_iload hx hb dX6_wordFrom_88 (lv_at hl 1 rfl) ?_
  refine lv_if_eq (tgt := 95) hx hb dX6_wordFrom_90 (by decide) (fun c_32 => ?_) (fun c_32 => ?_)
  rotate_left
  · exact absurd (by decide) c_32
  refine lv_iinc (v := 2) (lv' := [(3, .int 2), (5, .int 1), (4, .int 0), (0, .ref h0), (1, .int 13), (2, .int 18)]) hx hb dX6_wordFrom_95 hl (k := 2) rfl (by decide) (by decide) rfl (fun ls hl => ?_)
  refine lv_goto (tgt := 2) hx hb dX6_wordFrom_98 (by decide) ?_
  refine lv_iload_n hx hb dX6_wordFrom_2 rfl (lv_at hl 0 rfl) ?_
  refine lv_bipush (v := 12) hx hb dX6_wordFrom_3 (by decide) ?_
  refine lv_icmp_ge (tgt := 101) hx hb dX6_wordFrom_5 (by decide) (fun c_33 => ?_) (fun c_33 => ?_)
  · exact absurd c_33 (by decide)
  refine lv_iload_n hx hb dX6_wordFrom_8 rfl (lv_at hl 5 rfl) ?_
  refine lv_iload_n hx hb dX6_wordFrom_9 rfl (lv_at hl 4 rfl) ?_
  refine lv_isub hx hb dX6_wordFrom_10 ?_
  refine lv_topi (fun v_34 ev_34 => ?_)
  have ev_34 : v_34 = 5 := ev_34.trans (by decide)
  subst ev_34
  refine lv_bipush (v := 8) hx hb dX6_wordFrom_11 (by decide) ?_
  refine lv_icmp_gt (tgt := 20) hx hb dX6_wordFrom_13 (by decide) (fun c_35 => ?_) (fun c_35 => ?_)
  · exact absurd c_35 (by decide)
  refine lv_iconst (v := 1) hx hb dX6_wordFrom_16 (by decide) ?_
  refine lv_goto (tgt := 21) hx hb dX6_wordFrom_17 (by decide) ?_
  refine lv_istore (lv' := [(4, .int 1), (3, .int 2), (5, .int 1), (0, .ref h0), (1, .int 13), (2, .int 18)]) hx hb dX6_wordFrom_21 hl (by decide) rfl (fun ls hl => ?_)
  refine lv_iconst (v := 0) hx hb dX6_wordFrom_23 (by decide) ?_
  refine lv_istore (lv' := [(5, .int 0), (4, .int 1), (3, .int 2), (0, .ref h0), (1, .int 13), (2, .int 18)]) hx hb dX6_wordFrom_24 hl (by decide) rfl (fun ls hl => ?_)
  refine lv_iload hx hb dX6_wordFrom_26 (lv_at hl 0 rfl) ?_
  refine lv_bipush (v := 8) hx hb dX6_wordFrom_28 (by decide) ?_
  refine lv_icmp_ge (tgt := 88) hx hb dX6_wordFrom_30 (by decide) (fun c_36 => ?_) (fun c_36 => ?_)
  · exact absurd c_36 (by decide)
  refine lv_iload hx hb dX6_wordFrom_33 (lv_at hl 1 rfl) ?_
  refine lv_if_eq (tgt := 88) hx hb dX6_wordFrom_35 (by decide) (fun c_37 => ?_) (fun c_37 => ?_)
  · exact absurd c_37 (by decide)
  refine lv_aload_n hx hb dX6_wordFrom_38 rfl (lv_at hl 3 rfl) ?_
  refine va_get (D := G.1) (ci := 6) (v := .ref wo) (C := RX6) (T := TX6) (N := 42) hx hb hts hiX6 hown hK hP 2 rfl rfl 23 (by decide) kf49 (fun _ h9 => h9) rfl dX6_wordFrom_39 ?_
  refine lv_bipush (v := 8) hx hb dX6_wordFrom_42 (by decide) ?_
  refine lv_iload_n hx hb dX6_wordFrom_44 rfl (lv_at hl 2 rfl) ?_
  refine lv_imul hx hb dX6_wordFrom_45 ?_
  refine lv_topi (fun v_38 ev_38 => ?_)
  have ev_38 : v_38 = 16 := ev_38.trans (by decide)
  subst ev_38
  refine lv_iload hx hb dX6_wordFrom_46 (lv_at hl 0 rfl) ?_
  refine lv_iadd hx hb dX6_wordFrom_48 ?_
  refine lv_topi (fun v_39 ev_39 => ?_)
  have ev_39 : v_39 = 16 := ev_39.trans (by decide)
  subst ev_39
  refine va_iald (D := G.1) hx hb hK hP 1 0 rfl rfl (i := 16) (gIn (by decide)) dX6_wordFrom_49 ?_
  refine lv_topi (fun v_40 ev_40 => ?_)
  have ev_40 : v_40 = 98 := ev_40.trans (by decide)
  subst ev_40
  refine lv_iload_n hx hb dX6_wordFrom_50 rfl (lv_at hl 4 rfl) ?_
  refine lv_iload hx hb dX6_wordFrom_51 (lv_at hl 0 rfl) ?_
  refine lv_iadd hx hb dX6_wordFrom_53 ?_
  refine lv_topi (fun v_41 ev_41 => ?_)
  have ev_41 : v_41 = 13 := ev_41.trans (by decide)
  subst ev_41
  refine lv_iload_n hx hb dX6_wordFrom_54 rfl (lv_at hl 5 rfl) ?_
  refine lv_icmp_ge (tgt := 70) hx hb dX6_wordFrom_55 (by decide) (fun c_42 => ?_) (fun c_42 => ?_)
  · exact absurd c_42 (by decide)
  refine lv_aload_n hx hb dX6_wordFrom_58 rfl (lv_at hl 3 rfl) ?_
  refine va_get (D := G.1) (ci := 6) (v := .ref tp) (C := RX6) (T := TX6) (N := 42) hx hb hts hiX6 hown hK hP 2 rfl rfl 6 (by decide) kf22 (fun _ h9 => h9) rfl dX6_wordFrom_59 ?_
  refine lv_iload_n hx hb dX6_wordFrom_62 rfl (lv_at hl 4 rfl) ?_
  refine lv_iload hx hb dX6_wordFrom_63 (lv_at hl 0 rfl) ?_
  refine lv_iadd hx hb dX6_wordFrom_65 ?_
  refine lv_topi (fun v_43 ev_43 => ?_)
  have ev_43 : v_43 = 13 := ev_43.trans (by decide)
  subst ev_43
  refine va_iald (D := G.1) hx hb hK hP 0 0 rfl rfl (i := 13) (gIn (by decide)) dX6_wordFrom_66 ?_
  refine lv_topi (fun v_44 ev_44 => ?_)
  have ev_44 : v_44 = 114 := ev_44.trans (by decide)
  subst ev_44
  refine lv_goto (tgt := 72) hx hb dX6_wordFrom_67 (by decide) ?_
  refine lv_icmp_ne (tgt := 79) hx hb dX6_wordFrom_72 (by decide) (fun c_45 => ?_) (fun c_45 => ?_)
  rotate_left
  · exact absurd c_45 (by decide)
  refine lv_iconst (v := 0) hx hb dX6_wordFrom_79 (by decide) ?_
  refine lv_istore (lv' := [(4, .int 0), (5, .int 0), (3, .int 2), (0, .ref h0), (1, .int 13), (2, .int 18)]) hx hb dX6_wordFrom_80 hl (by decide) rfl (fun ls hl => ?_)
  refine lv_iinc (v := 1) (lv' := [(5, .int 1), (4, .int 0), (3, .int 2), (0, .ref h0), (1, .int 13), (2, .int 18)]) hx hb dX6_wordFrom_82 hl (k := 1) rfl (by decide) (by decide) rfl (fun ls hl => ?_)
  refine lv_goto (tgt := 26) hx hb dX6_wordFrom_85 (by decide) ?_
  refine lv_iload hx hb dX6_wordFrom_26 (lv_at hl 0 rfl) ?_
  refine lv_bipush (v := 8) hx hb dX6_wordFrom_28 (by decide) ?_
  refine lv_icmp_ge (tgt := 88) hx hb dX6_wordFrom_30 (by decide) (fun c_46 => ?_) (fun c_46 => ?_)
  · exact absurd c_46 (by decide)
  refine lv_iload hx hb dX6_wordFrom_33 (lv_at hl 1 rfl) ?_
  refine lv_if_eq (tgt := 88) hx hb dX6_wordFrom_35 (by decide) (fun c_47 => ?_) (fun c_47 => ?_)
  rotate_left
  · exact absurd (by decide) c_47
  refine lv_iload hx hb dX6_wordFrom_88 (lv_at hl 1 rfl) ?_
  refine lv_if_eq (tgt := 95) hx hb dX6_wordFrom_90 (by decide) (fun c_48 => ?_) (fun c_48 => ?_)
  rotate_left
  · exact absurd (by decide) c_48
  refine lv_iinc (v := 3) (lv' := [(3, .int 3), (5, .int 1), (4, .int 0), (0, .ref h0), (1, .int 13), (2, .int 18)]) hx hb dX6_wordFrom_95 hl (k := 2) rfl (by decide) (by decide) rfl (fun ls hl => ?_)
  refine lv_goto (tgt := 2) hx hb dX6_wordFrom_98 (by decide) ?_
  refine lv_iload_n hx hb dX6_wordFrom_2 rfl (lv_at hl 0 rfl) ?_
  refine lv_bipush (v := 12) hx hb dX6_wordFrom_3 (by decide) ?_
  refine lv_icmp_ge (tgt := 101) hx hb dX6_wordFrom_5 (by decide) (fun c_49 => ?_) (fun c_49 => ?_)
  · exact absurd c_49 (by decide)
  refine lv_iload_n hx hb dX6_wordFrom_8 rfl (lv_at hl 5 rfl) ?_
  refine lv_iload_n hx hb dX6_wordFrom_9 rfl (lv_at hl 4 rfl) ?_
  refine lv_isub hx hb dX6_wordFrom_10 ?_
  refine lv_topi (fun v_50 ev_50 => ?_)
  have ev_50 : v_50 = 5 := ev_50.trans (by decide)
  subst ev_50
  refine lv_bipush (v := 8) hx hb dX6_wordFrom_11 (by decide) ?_
  refine lv_icmp_gt (tgt := 20) hx hb dX6_wordFrom_13 (by decide) (fun c_51 => ?_) (fun c_51 => ?_)
  · exact absurd c_51 (by decide)
  refine lv_iconst (v := 1) hx hb dX6_wordFrom_16 (by decide) ?_
  refine lv_goto (tgt := 21) hx hb dX6_wordFrom_17 (by decide) ?_
  refine lv_istore (lv' := [(4, .int 1), (3, .int 3), (5, .int 1), (0, .ref h0), (1, .int 13), (2, .int 18)]) hx hb dX6_wordFrom_21 hl (by decide) rfl (fun ls hl => ?_)
  refine lv_iconst (v := 0) hx hb dX6_wordFrom_23 (by decide) ?_
  refine lv_istore (lv' := [(5, .int 0), (4, .int 1), (3, .int 3), (0, .ref h0), (1, .int 13), (2, .int 18)]) hx hb dX6_wordFrom_24 hl (by decide) rfl (fun ls hl => ?_)
  refine lv_iload hx hb dX6_wordFrom_26 (lv_at hl 0 rfl) ?_
  refine lv_bipush (v := 8) hx hb dX6_wordFrom_28 (by decide) ?_
  refine lv_icmp_ge (tgt := 88) hx hb dX6_wordFrom_30 (by decide) (fun c_52 => ?_) (fun c_52 => ?_)
  · exact absurd c_52 (by decide)
  refine lv_iload hx hb dX6_wordFrom_33 (lv_at hl 1 rfl) ?_
  refine lv_if_eq (tgt := 88) hx hb dX6_wordFrom_35 (by decide) (fun c_53 => ?_) (fun c_53 => ?_)
  · exact absurd c_53 (by decide)
  refine lv_aload_n hx hb dX6_wordFrom_38 rfl (lv_at hl 3 rfl) ?_
  refine va_get (D := G.1) (ci := 6) (v := .ref wo) (C := RX6) (T := TX6) (N := 42) hx hb hts hiX6 hown hK hP 2 rfl rfl 23 (by decide) kf49 (fun _ h9 => h9) rfl dX6_wordFrom_39 ?_
  refine lv_bipush (v := 8) hx hb dX6_wordFrom_42 (by decide) ?_
  refine lv_iload_n hx hb dX6_wordFrom_44 rfl (lv_at hl 2 rfl) ?_
  refine lv_imul hx hb dX6_wordFrom_45 ?_
  refine lv_topi (fun v_54 ev_54 => ?_)
  have ev_54 : v_54 = 24 := ev_54.trans (by decide)
  subst ev_54
  refine lv_iload hx hb dX6_wordFrom_46 (lv_at hl 0 rfl) ?_
  refine lv_iadd hx hb dX6_wordFrom_48 ?_
  refine lv_topi (fun v_55 ev_55 => ?_)
  have ev_55 : v_55 = 24 := ev_55.trans (by decide)
  subst ev_55
  refine va_iald (D := G.1) hx hb hK hP 1 0 rfl rfl (i := 24) (gIn (by decide)) dX6_wordFrom_49 ?_
  refine lv_topi (fun v_56 ev_56 => ?_)
  have ev_56 : v_56 = 115 := ev_56.trans (by decide)
  subst ev_56
  refine lv_iload_n hx hb dX6_wordFrom_50 rfl (lv_at hl 4 rfl) ?_
  refine lv_iload hx hb dX6_wordFrom_51 (lv_at hl 0 rfl) ?_
  refine lv_iadd hx hb dX6_wordFrom_53 ?_
  refine lv_topi (fun v_57 ev_57 => ?_)
  have ev_57 : v_57 = 13 := ev_57.trans (by decide)
  subst ev_57
  refine lv_iload_n hx hb dX6_wordFrom_54 rfl (lv_at hl 5 rfl) ?_
  refine lv_icmp_ge (tgt := 70) hx hb dX6_wordFrom_55 (by decide) (fun c_58 => ?_) (fun c_58 => ?_)
  · exact absurd c_58 (by decide)
  refine lv_aload_n hx hb dX6_wordFrom_58 rfl (lv_at hl 3 rfl) ?_
  refine va_get (D := G.1) (ci := 6) (v := .ref tp) (C := RX6) (T := TX6) (N := 42) hx hb hts hiX6 hown hK hP 2 rfl rfl 6 (by decide) kf22 (fun _ h9 => h9) rfl dX6_wordFrom_59 ?_
  refine lv_iload_n hx hb dX6_wordFrom_62 rfl (lv_at hl 4 rfl) ?_
  refine lv_iload hx hb dX6_wordFrom_63 (lv_at hl 0 rfl) ?_
  refine lv_iadd hx hb dX6_wordFrom_65 ?_
  refine lv_topi (fun v_59 ev_59 => ?_)
  have ev_59 : v_59 = 13 := ev_59.trans (by decide)
  subst ev_59
  refine va_iald (D := G.1) hx hb hK hP 0 0 rfl rfl (i := 13) (gIn (by decide)) dX6_wordFrom_66 ?_
  refine lv_topi (fun v_60 ev_60 => ?_)
  have ev_60 : v_60 = 114 := ev_60.trans (by decide)
  subst ev_60
  refine lv_goto (tgt := 72) hx hb dX6_wordFrom_67 (by decide) ?_
  refine lv_icmp_ne (tgt := 79) hx hb dX6_wordFrom_72 (by decide) (fun c_61 => ?_) (fun c_61 => ?_)
  rotate_left
  · exact absurd c_61 (by decide)
  refine lv_iconst (v := 0) hx hb dX6_wordFrom_79 (by decide) ?_
  refine lv_istore (lv' := [(4, .int 0), (5, .int 0), (3, .int 3), (0, .ref h0), (1, .int 13), (2, .int 18)]) hx hb dX6_wordFrom_80 hl (by decide) rfl (fun ls hl => ?_)
  refine lv_iinc (v := 1) (lv' := [(5, .int 1), (4, .int 0), (3, .int 3), (0, .ref h0), (1, .int 13), (2, .int 18)]) hx hb dX6_wordFrom_82 hl (k := 1) rfl (by decide) (by decide) rfl (fun ls hl => ?_)
  refine lv_goto (tgt := 26) hx hb dX6_wordFrom_85 (by decide) ?_
  refine lv_iload hx hb dX6_wordFrom_26 (lv_at hl 0 rfl) ?_
  refine lv_bipush (v := 8) hx hb dX6_wordFrom_28 (by decide) ?_
  refine lv_icmp_ge (tgt := 88) hx hb dX6_wordFrom_30 (by decide) (fun c_62 => ?_) (fun c_62 => ?_)
  · exact absurd c_62 (by decide)
  refine lv_iload hx hb dX6_wordFrom_33 (lv_at hl 1 rfl) ?_
  refine lv_if_eq (tgt := 88) hx hb dX6_wordFrom_35 (by decide) (fun c_63 => ?_) (fun c_63 => ?_)
  rotate_left
  · exact absurd (by decide) c_63
  refine lv_iload hx hb dX6_wordFrom_88 (lv_at hl 1 rfl) ?_
  refine lv_if_eq (tgt := 95) hx hb dX6_wordFrom_90 (by decide) (fun c_64 => ?_) (fun c_64 => ?_)
  rotate_left
  · exact absurd (by decide) c_64
  refine lv_iinc (v := 4) (lv' := [(3, .int 4), (5, .int 1), (4, .int 0), (0, .ref h0), (1, .int 13), (2, .int 18)]) hx hb dX6_wordFrom_95 hl (k := 2) rfl (by decide) (by decide) rfl (fun ls hl => ?_)
  refine lv_goto (tgt := 2) hx hb dX6_wordFrom_98 (by decide) ?_
  refine lv_iload_n hx hb dX6_wordFrom_2 rfl (lv_at hl 0 rfl) ?_
  refine lv_bipush (v := 12) hx hb dX6_wordFrom_3 (by decide) ?_
  refine lv_icmp_ge (tgt := 101) hx hb dX6_wordFrom_5 (by decide) (fun c_65 => ?_) (fun c_65 => ?_)
  · exact absurd c_65 (by decide)
  refine lv_iload_n hx hb dX6_wordFrom_8 rfl (lv_at hl 5 rfl) ?_
  refine lv_iload_n hx hb dX6_wordFrom_9 rfl (lv_at hl 4 rfl) ?_
  refine lv_isub hx hb dX6_wordFrom_10 ?_
  refine lv_topi (fun v_66 ev_66 => ?_)
  have ev_66 : v_66 = 5 := ev_66.trans (by decide)
  subst ev_66
  refine lv_bipush (v := 8) hx hb dX6_wordFrom_11 (by decide) ?_
  refine lv_icmp_gt (tgt := 20) hx hb dX6_wordFrom_13 (by decide) (fun c_67 => ?_) (fun c_67 => ?_)
  · exact absurd c_67 (by decide)
  refine lv_iconst (v := 1) hx hb dX6_wordFrom_16 (by decide) ?_
  refine lv_goto (tgt := 21) hx hb dX6_wordFrom_17 (by decide) ?_
  refine lv_istore (lv' := [(4, .int 1), (3, .int 4), (5, .int 1), (0, .ref h0), (1, .int 13), (2, .int 18)]) hx hb dX6_wordFrom_21 hl (by decide) rfl (fun ls hl => ?_)
  refine lv_iconst (v := 0) hx hb dX6_wordFrom_23 (by decide) ?_
  refine lv_istore (lv' := [(5, .int 0), (4, .int 1), (3, .int 4), (0, .ref h0), (1, .int 13), (2, .int 18)]) hx hb dX6_wordFrom_24 hl (by decide) rfl (fun ls hl => ?_)
  refine lv_iload hx hb dX6_wordFrom_26 (lv_at hl 0 rfl) ?_
  refine lv_bipush (v := 8) hx hb dX6_wordFrom_28 (by decide) ?_
  refine lv_icmp_ge (tgt := 88) hx hb dX6_wordFrom_30 (by decide) (fun c_68 => ?_) (fun c_68 => ?_)
  · exact absurd c_68 (by decide)
  refine lv_iload hx hb dX6_wordFrom_33 (lv_at hl 1 rfl) ?_
  refine lv_if_eq (tgt := 88) hx hb dX6_wordFrom_35 (by decide) (fun c_69 => ?_) (fun c_69 => ?_)
  · exact absurd c_69 (by decide)
  refine lv_aload_n hx hb dX6_wordFrom_38 rfl (lv_at hl 3 rfl) ?_
  refine va_get (D := G.1) (ci := 6) (v := .ref wo) (C := RX6) (T := TX6) (N := 42) hx hb hts hiX6 hown hK hP 2 rfl rfl 23 (by decide) kf49 (fun _ h9 => h9) rfl dX6_wordFrom_39 ?_
  refine lv_bipush (v := 8) hx hb dX6_wordFrom_42 (by decide) ?_
  refine lv_iload_n hx hb dX6_wordFrom_44 rfl (lv_at hl 2 rfl) ?_
  refine lv_imul hx hb dX6_wordFrom_45 ?_
  refine lv_topi (fun v_70 ev_70 => ?_)
  have ev_70 : v_70 = 32 := ev_70.trans (by decide)
  subst ev_70
  refine lv_iload hx hb dX6_wordFrom_46 (lv_at hl 0 rfl) ?_
  refine lv_iadd hx hb dX6_wordFrom_48 ?_
  refine lv_topi (fun v_71 ev_71 => ?_)
  have ev_71 : v_71 = 32 := ev_71.trans (by decide)
  subst ev_71
  refine va_iald (D := G.1) hx hb hK hP 1 0 rfl rfl (i := 32) (gIn (by decide)) dX6_wordFrom_49 ?_
  refine lv_topi (fun v_72 ev_72 => ?_)
  have ev_72 : v_72 = 114 := ev_72.trans (by decide)
  subst ev_72
  refine lv_iload_n hx hb dX6_wordFrom_50 rfl (lv_at hl 4 rfl) ?_
  refine lv_iload hx hb dX6_wordFrom_51 (lv_at hl 0 rfl) ?_
  refine lv_iadd hx hb dX6_wordFrom_53 ?_
  refine lv_topi (fun v_73 ev_73 => ?_)
  have ev_73 : v_73 = 13 := ev_73.trans (by decide)
  subst ev_73
  refine lv_iload_n hx hb dX6_wordFrom_54 rfl (lv_at hl 5 rfl) ?_
  refine lv_icmp_ge (tgt := 70) hx hb dX6_wordFrom_55 (by decide) (fun c_74 => ?_) (fun c_74 => ?_)
  · exact absurd c_74 (by decide)
  refine lv_aload_n hx hb dX6_wordFrom_58 rfl (lv_at hl 3 rfl) ?_
  refine va_get (D := G.1) (ci := 6) (v := .ref tp) (C := RX6) (T := TX6) (N := 42) hx hb hts hiX6 hown hK hP 2 rfl rfl 6 (by decide) kf22 (fun _ h9 => h9) rfl dX6_wordFrom_59 ?_
  refine lv_iload_n hx hb dX6_wordFrom_62 rfl (lv_at hl 4 rfl) ?_
  refine lv_iload hx hb dX6_wordFrom_63 (lv_at hl 0 rfl) ?_
  refine lv_iadd hx hb dX6_wordFrom_65 ?_
  refine lv_topi (fun v_75 ev_75 => ?_)
  have ev_75 : v_75 = 13 := ev_75.trans (by decide)
  subst ev_75
  refine va_iald (D := G.1) hx hb hK hP 0 0 rfl rfl (i := 13) (gIn (by decide)) dX6_wordFrom_66 ?_
  refine lv_topi (fun v_76 ev_76 => ?_)
  have ev_76 : v_76 = 114 := ev_76.trans (by decide)
  subst ev_76
  refine lv_goto (tgt := 72) hx hb dX6_wordFrom_67 (by decide) ?_
  refine lv_icmp_ne (tgt := 79) hx hb dX6_wordFrom_72 (by decide) (fun c_77 => ?_) (fun c_77 => ?_)
  · exact absurd (by decide) c_77
  refine lv_iconst (v := 1) hx hb dX6_wordFrom_75 (by decide) ?_
  refine lv_goto (tgt := 80) hx hb dX6_wordFrom_76 (by decide) ?_
  refine lv_istore (lv' := [(4, .int 1), (5, .int 0), (3, .int 4), (0, .ref h0), (1, .int 13), (2, .int 18)]) hx hb dX6_wordFrom_80 hl (by decide) rfl (fun ls hl => ?_)
  refine lv_iinc (v := 1) (lv' := [(5, .int 1), (4, .int 1), (3, .int 4), (0, .ref h0), (1, .int 13), (2, .int 18)]) hx hb dX6_wordFrom_82 hl (k := 1) rfl (by decide) (by decide) rfl (fun ls hl => ?_)
  refine lv_goto (tgt := 26) hx hb dX6_wordFrom_85 (by decide) ?_
  refine lv_iload hx hb dX6_wordFrom_26 (lv_at hl 0 rfl) ?_
  refine lv_bipush (v := 8) hx hb dX6_wordFrom_28 (by decide) ?_
  refine lv_icmp_ge (tgt := 88) hx hb dX6_wordFrom_30 (by decide) (fun c_78 => ?_) (fun c_78 => ?_)
  · exact absurd c_78 (by decide)
  refine lv_iload hx hb dX6_wordFrom_33 (lv_at hl 1 rfl) ?_
  refine lv_if_eq (tgt := 88) hx hb dX6_wordFrom_35 (by decide) (fun c_79 => ?_) (fun c_79 => ?_)
  · exact absurd c_79 (by decide)
  refine lv_aload_n hx hb dX6_wordFrom_38 rfl (lv_at hl 3 rfl) ?_
  refine va_get (D := G.1) (ci := 6) (v := .ref wo) (C := RX6) (T := TX6) (N := 42) hx hb hts hiX6 hown hK hP 2 rfl rfl 23 (by decide) kf49 (fun _ h9 => h9) rfl dX6_wordFrom_39 ?_
  refine lv_bipush (v := 8) hx hb dX6_wordFrom_42 (by decide) ?_
  refine lv_iload_n hx hb dX6_wordFrom_44 rfl (lv_at hl 2 rfl) ?_
  refine lv_imul hx hb dX6_wordFrom_45 ?_
  refine lv_topi (fun v_80 ev_80 => ?_)
  have ev_80 : v_80 = 32 := ev_80.trans (by decide)
  subst ev_80
  refine lv_iload hx hb dX6_wordFrom_46 (lv_at hl 0 rfl) ?_
  refine lv_iadd hx hb dX6_wordFrom_48 ?_
  refine lv_topi (fun v_81 ev_81 => ?_)
  have ev_81 : v_81 = 33 := ev_81.trans (by decide)
  subst ev_81
  refine va_iald (D := G.1) hx hb hK hP 1 0 rfl rfl (i := 33) (gIn (by decide)) dX6_wordFrom_49 ?_
  refine lv_topi (fun v_82 ev_82 => ?_)
  have ev_82 : v_82 = 111 := ev_82.trans (by decide)
  subst ev_82
  refine lv_iload_n hx hb dX6_wordFrom_50 rfl (lv_at hl 4 rfl) ?_
  refine lv_iload hx hb dX6_wordFrom_51 (lv_at hl 0 rfl) ?_
  refine lv_iadd hx hb dX6_wordFrom_53 ?_
  refine lv_topi (fun v_83 ev_83 => ?_)
  have ev_83 : v_83 = 14 := ev_83.trans (by decide)
  subst ev_83
  refine lv_iload_n hx hb dX6_wordFrom_54 rfl (lv_at hl 5 rfl) ?_
  refine lv_icmp_ge (tgt := 70) hx hb dX6_wordFrom_55 (by decide) (fun c_84 => ?_) (fun c_84 => ?_)
  · exact absurd c_84 (by decide)
  refine lv_aload_n hx hb dX6_wordFrom_58 rfl (lv_at hl 3 rfl) ?_
  refine va_get (D := G.1) (ci := 6) (v := .ref tp) (C := RX6) (T := TX6) (N := 42) hx hb hts hiX6 hown hK hP 2 rfl rfl 6 (by decide) kf22 (fun _ h9 => h9) rfl dX6_wordFrom_59 ?_
  refine lv_iload_n hx hb dX6_wordFrom_62 rfl (lv_at hl 4 rfl) ?_
  refine lv_iload hx hb dX6_wordFrom_63 (lv_at hl 0 rfl) ?_
  refine lv_iadd hx hb dX6_wordFrom_65 ?_
  refine lv_topi (fun v_85 ev_85 => ?_)
  have ev_85 : v_85 = 14 := ev_85.trans (by decide)
  subst ev_85
  refine va_iald (D := G.1) hx hb hK hP 0 0 rfl rfl (i := 14) (gIn (by decide)) dX6_wordFrom_66 ?_
  refine lv_topi (fun v_86 ev_86 => ?_)
  have ev_86 : v_86 = 111 := ev_86.trans (by decide)
  subst ev_86
  refine lv_goto (tgt := 72) hx hb dX6_wordFrom_67 (by decide) ?_
  refine lv_icmp_ne (tgt := 79) hx hb dX6_wordFrom_72 (by decide) (fun c_87 => ?_) (fun c_87 => ?_)
  · exact absurd (by decide) c_87
  refine lv_iconst (v := 1) hx hb dX6_wordFrom_75 (by decide) ?_
  refine lv_goto (tgt := 80) hx hb dX6_wordFrom_76 (by decide) ?_
  refine lv_istore (lv' := [(4, .int 1), (5, .int 1), (3, .int 4), (0, .ref h0), (1, .int 13), (2, .int 18)]) hx hb dX6_wordFrom_80 hl (by decide) rfl (fun ls hl => ?_)
  refine lv_iinc (v := 2) (lv' := [(5, .int 2), (4, .int 1), (3, .int 4), (0, .ref h0), (1, .int 13), (2, .int 18)]) hx hb dX6_wordFrom_82 hl (k := 1) rfl (by decide) (by decide) rfl (fun ls hl => ?_)
  refine lv_goto (tgt := 26) hx hb dX6_wordFrom_85 (by decide) ?_
  refine lv_iload hx hb dX6_wordFrom_26 (lv_at hl 0 rfl) ?_
  refine lv_bipush (v := 8) hx hb dX6_wordFrom_28 (by decide) ?_
  refine lv_icmp_ge (tgt := 88) hx hb dX6_wordFrom_30 (by decide) (fun c_88 => ?_) (fun c_88 => ?_)
  · exact absurd c_88 (by decide)
  refine lv_iload hx hb dX6_wordFrom_33 (lv_at hl 1 rfl) ?_
  refine lv_if_eq (tgt := 88) hx hb dX6_wordFrom_35 (by decide) (fun c_89 => ?_) (fun c_89 => ?_)
  · exact absurd c_89 (by decide)
  refine lv_aload_n hx hb dX6_wordFrom_38 rfl (lv_at hl 3 rfl) ?_
  refine va_get (D := G.1) (ci := 6) (v := .ref wo) (C := RX6) (T := TX6) (N := 42) hx hb hts hiX6 hown hK hP 2 rfl rfl 23 (by decide) kf49 (fun _ h9 => h9) rfl dX6_wordFrom_39 ?_
  refine lv_bipush (v := 8) hx hb dX6_wordFrom_42 (by decide) ?_
  refine lv_iload_n hx hb dX6_wordFrom_44 rfl (lv_at hl 2 rfl) ?_
  refine lv_imul hx hb dX6_wordFrom_45 ?_
  refine lv_topi (fun v_90 ev_90 => ?_)
  have ev_90 : v_90 = 32 := ev_90.trans (by decide)
  subst ev_90
  refine lv_iload hx hb dX6_wordFrom_46 (lv_at hl 0 rfl) ?_
  refine lv_iadd hx hb dX6_wordFrom_48 ?_
  refine lv_topi (fun v_91 ev_91 => ?_)
  have ev_91 : v_91 = 34 := ev_91.trans (by decide)
  subst ev_91
  refine va_iald (D := G.1) hx hb hK hP 1 0 rfl rfl (i := 34) (gIn (by decide)) dX6_wordFrom_49 ?_
  refine lv_topi (fun v_92 ev_92 => ?_)
  have ev_92 : v_92 = 117 := ev_92.trans (by decide)
  subst ev_92
  refine lv_iload_n hx hb dX6_wordFrom_50 rfl (lv_at hl 4 rfl) ?_
  refine lv_iload hx hb dX6_wordFrom_51 (lv_at hl 0 rfl) ?_
  refine lv_iadd hx hb dX6_wordFrom_53 ?_
  refine lv_topi (fun v_93 ev_93 => ?_)
  have ev_93 : v_93 = 15 := ev_93.trans (by decide)
  subst ev_93
  refine lv_iload_n hx hb dX6_wordFrom_54 rfl (lv_at hl 5 rfl) ?_
  refine lv_icmp_ge (tgt := 70) hx hb dX6_wordFrom_55 (by decide) (fun c_94 => ?_) (fun c_94 => ?_)
  · exact absurd c_94 (by decide)
  refine lv_aload_n hx hb dX6_wordFrom_58 rfl (lv_at hl 3 rfl) ?_
  refine va_get (D := G.1) (ci := 6) (v := .ref tp) (C := RX6) (T := TX6) (N := 42) hx hb hts hiX6 hown hK hP 2 rfl rfl 6 (by decide) kf22 (fun _ h9 => h9) rfl dX6_wordFrom_59 ?_
  refine lv_iload_n hx hb dX6_wordFrom_62 rfl (lv_at hl 4 rfl) ?_
  refine lv_iload hx hb dX6_wordFrom_63 (lv_at hl 0 rfl) ?_
  refine lv_iadd hx hb dX6_wordFrom_65 ?_
  refine lv_topi (fun v_95 ev_95 => ?_)
  have ev_95 : v_95 = 15 := ev_95.trans (by decide)
  subst ev_95
  refine va_iald (D := G.1) hx hb hK hP 0 0 rfl rfl (i := 15) (gIn (by decide)) dX6_wordFrom_66 ?_
  refine lv_topi (fun v_96 ev_96 => ?_)
  have ev_96 : v_96 = 117 := ev_96.trans (by decide)
  subst ev_96
  refine lv_goto (tgt := 72) hx hb dX6_wordFrom_67 (by decide) ?_
  refine lv_icmp_ne (tgt := 79) hx hb dX6_wordFrom_72 (by decide) (fun c_97 => ?_) (fun c_97 => ?_)
  · exact absurd (by decide) c_97
  refine lv_iconst (v := 1) hx hb dX6_wordFrom_75 (by decide) ?_
  refine lv_goto (tgt := 80) hx hb dX6_wordFrom_76 (by decide) ?_
  refine lv_istore (lv' := [(4, .int 1), (5, .int 2), (3, .int 4), (0, .ref h0), (1, .int 13), (2, .int 18)]) hx hb dX6_wordFrom_80 hl (by decide) rfl (fun ls hl => ?_)
  refine lv_iinc (v := 3) (lv' := [(5, .int 3), (4, .int 1), (3, .int 4), (0, .ref h0), (1, .int 13), (2, .int 18)]) hx hb dX6_wordFrom_82 hl (k := 1) rfl (by decide) (by decide) rfl (fun ls hl => ?_)
  refine lv_goto (tgt := 26) hx hb dX6_wordFrom_85 (by decide) ?_
  refine lv_iload hx hb dX6_wordFrom_26 (lv_at hl 0 rfl) ?_
  refine lv_bipush (v := 8) hx hb dX6_wordFrom_28 (by decide) ?_
  refine lv_icmp_ge (tgt := 88) hx hb dX6_wordFrom_30 (by decide) (fun c_98 => ?_) (fun c_98 => ?_)
  · exact absurd c_98 (by decide)
  refine lv_iload hx hb dX6_wordFrom_33 (lv_at hl 1 rfl) ?_
  refine lv_if_eq (tgt := 88) hx hb dX6_wordFrom_35 (by decide) (fun c_99 => ?_) (fun c_99 => ?_)
  · exact absurd c_99 (by decide)
  refine lv_aload_n hx hb dX6_wordFrom_38 rfl (lv_at hl 3 rfl) ?_
  refine va_get (D := G.1) (ci := 6) (v := .ref wo) (C := RX6) (T := TX6) (N := 42) hx hb hts hiX6 hown hK hP 2 rfl rfl 23 (by decide) kf49 (fun _ h9 => h9) rfl dX6_wordFrom_39 ?_
  refine lv_bipush (v := 8) hx hb dX6_wordFrom_42 (by decide) ?_
  refine lv_iload_n hx hb dX6_wordFrom_44 rfl (lv_at hl 2 rfl) ?_
  refine lv_imul hx hb dX6_wordFrom_45 ?_
  refine lv_topi (fun v_100 ev_100 => ?_)
  have ev_100 : v_100 = 32 := ev_100.trans (by decide)
  subst ev_100
  refine lv_iload hx hb dX6_wordFrom_46 (lv_at hl 0 rfl) ?_
  refine lv_iadd hx hb dX6_wordFrom_48 ?_
  refine lv_topi (fun v_101 ev_101 => ?_)
  have ev_101 : v_101 = 35 := ev_101.trans (by decide)
  subst ev_101
  refine va_iald (D := G.1) hx hb hK hP 1 0 rfl rfl (i := 35) (gIn (by decide)) dX6_wordFrom_49 ?_
  refine lv_topi (fun v_102 ev_102 => ?_)
  have ev_102 : v_102 = 110 := ev_102.trans (by decide)
  subst ev_102
  refine lv_iload_n hx hb dX6_wordFrom_50 rfl (lv_at hl 4 rfl) ?_
  refine lv_iload hx hb dX6_wordFrom_51 (lv_at hl 0 rfl) ?_
  refine lv_iadd hx hb dX6_wordFrom_53 ?_
  refine lv_topi (fun v_103 ev_103 => ?_)
  have ev_103 : v_103 = 16 := ev_103.trans (by decide)
  subst ev_103
  refine lv_iload_n hx hb dX6_wordFrom_54 rfl (lv_at hl 5 rfl) ?_
  refine lv_icmp_ge (tgt := 70) hx hb dX6_wordFrom_55 (by decide) (fun c_104 => ?_) (fun c_104 => ?_)
  · exact absurd c_104 (by decide)
  refine lv_aload_n hx hb dX6_wordFrom_58 rfl (lv_at hl 3 rfl) ?_
  refine va_get (D := G.1) (ci := 6) (v := .ref tp) (C := RX6) (T := TX6) (N := 42) hx hb hts hiX6 hown hK hP 2 rfl rfl 6 (by decide) kf22 (fun _ h9 => h9) rfl dX6_wordFrom_59 ?_
  refine lv_iload_n hx hb dX6_wordFrom_62 rfl (lv_at hl 4 rfl) ?_
  refine lv_iload hx hb dX6_wordFrom_63 (lv_at hl 0 rfl) ?_
  refine lv_iadd hx hb dX6_wordFrom_65 ?_
  refine lv_topi (fun v_105 ev_105 => ?_)
  have ev_105 : v_105 = 16 := ev_105.trans (by decide)
  subst ev_105
  refine va_iald (D := G.1) hx hb hK hP 0 0 rfl rfl (i := 16) (gIn (by decide)) dX6_wordFrom_66 ?_
  refine lv_topi (fun v_106 ev_106 => ?_)
  have ev_106 : v_106 = 110 := ev_106.trans (by decide)
  subst ev_106
  refine lv_goto (tgt := 72) hx hb dX6_wordFrom_67 (by decide) ?_
  refine lv_icmp_ne (tgt := 79) hx hb dX6_wordFrom_72 (by decide) (fun c_107 => ?_) (fun c_107 => ?_)
  · exact absurd (by decide) c_107
  refine lv_iconst (v := 1) hx hb dX6_wordFrom_75 (by decide) ?_
  refine lv_goto (tgt := 80) hx hb dX6_wordFrom_76 (by decide) ?_
  refine lv_istore (lv' := [(4, .int 1), (5, .int 3), (3, .int 4), (0, .ref h0), (1, .int 13), (2, .int 18)]) hx hb dX6_wordFrom_80 hl (by decide) rfl (fun ls hl => ?_)
  refine lv_iinc (v := 4) (lv' := [(5, .int 4), (4, .int 1), (3, .int 4), (0, .ref h0), (1, .int 13), (2, .int 18)]) hx hb dX6_wordFrom_82 hl (k := 1) rfl (by decide) (by decide) rfl (fun ls hl => ?_)
  refine lv_goto (tgt := 26) hx hb dX6_wordFrom_85 (by decide) ?_
  refine lv_iload hx hb dX6_wordFrom_26 (lv_at hl 0 rfl) ?_
  refine lv_bipush (v := 8) hx hb dX6_wordFrom_28 (by decide) ?_
  refine lv_icmp_ge (tgt := 88) hx hb dX6_wordFrom_30 (by decide) (fun c_108 => ?_) (fun c_108 => ?_)
  · exact absurd c_108 (by decide)
  refine lv_iload hx hb dX6_wordFrom_33 (lv_at hl 1 rfl) ?_
  refine lv_if_eq (tgt := 88) hx hb dX6_wordFrom_35 (by decide) (fun c_109 => ?_) (fun c_109 => ?_)
  · exact absurd c_109 (by decide)
  refine lv_aload_n hx hb dX6_wordFrom_38 rfl (lv_at hl 3 rfl) ?_
  refine va_get (D := G.1) (ci := 6) (v := .ref wo) (C := RX6) (T := TX6) (N := 42) hx hb hts hiX6 hown hK hP 2 rfl rfl 23 (by decide) kf49 (fun _ h9 => h9) rfl dX6_wordFrom_39 ?_
  refine lv_bipush (v := 8) hx hb dX6_wordFrom_42 (by decide) ?_
  refine lv_iload_n hx hb dX6_wordFrom_44 rfl (lv_at hl 2 rfl) ?_
  refine lv_imul hx hb dX6_wordFrom_45 ?_
  refine lv_topi (fun v_110 ev_110 => ?_)
  have ev_110 : v_110 = 32 := ev_110.trans (by decide)
  subst ev_110
  refine lv_iload hx hb dX6_wordFrom_46 (lv_at hl 0 rfl) ?_
  refine lv_iadd hx hb dX6_wordFrom_48 ?_
  refine lv_topi (fun v_111 ev_111 => ?_)
  have ev_111 : v_111 = 36 := ev_111.trans (by decide)
  subst ev_111
  refine va_iald (D := G.1) hx hb hK hP 1 0 rfl rfl (i := 36) (gIn (by decide)) dX6_wordFrom_49 ?_
  refine lv_topi (fun v_112 ev_112 => ?_)
  have ev_112 : v_112 = 100 := ev_112.trans (by decide)
  subst ev_112
  refine lv_iload_n hx hb dX6_wordFrom_50 rfl (lv_at hl 4 rfl) ?_
  refine lv_iload hx hb dX6_wordFrom_51 (lv_at hl 0 rfl) ?_
  refine lv_iadd hx hb dX6_wordFrom_53 ?_
  refine lv_topi (fun v_113 ev_113 => ?_)
  have ev_113 : v_113 = 17 := ev_113.trans (by decide)
  subst ev_113
  refine lv_iload_n hx hb dX6_wordFrom_54 rfl (lv_at hl 5 rfl) ?_
  refine lv_icmp_ge (tgt := 70) hx hb dX6_wordFrom_55 (by decide) (fun c_114 => ?_) (fun c_114 => ?_)
  · exact absurd c_114 (by decide)
  refine lv_aload_n hx hb dX6_wordFrom_58 rfl (lv_at hl 3 rfl) ?_
  refine va_get (D := G.1) (ci := 6) (v := .ref tp) (C := RX6) (T := TX6) (N := 42) hx hb hts hiX6 hown hK hP 2 rfl rfl 6 (by decide) kf22 (fun _ h9 => h9) rfl dX6_wordFrom_59 ?_
  refine lv_iload_n hx hb dX6_wordFrom_62 rfl (lv_at hl 4 rfl) ?_
  refine lv_iload hx hb dX6_wordFrom_63 (lv_at hl 0 rfl) ?_
  refine lv_iadd hx hb dX6_wordFrom_65 ?_
  refine lv_topi (fun v_115 ev_115 => ?_)
  have ev_115 : v_115 = 17 := ev_115.trans (by decide)
  subst ev_115
  refine va_iald (D := G.1) hx hb hK hP 0 0 rfl rfl (i := 17) (gIn (by decide)) dX6_wordFrom_66 ?_
  refine lv_topi (fun v_116 ev_116 => ?_)
  have ev_116 : v_116 = 100 := ev_116.trans (by decide)
  subst ev_116
  refine lv_goto (tgt := 72) hx hb dX6_wordFrom_67 (by decide) ?_
  refine lv_icmp_ne (tgt := 79) hx hb dX6_wordFrom_72 (by decide) (fun c_117 => ?_) (fun c_117 => ?_)
  · exact absurd (by decide) c_117
  refine lv_iconst (v := 1) hx hb dX6_wordFrom_75 (by decide) ?_
  refine lv_goto (tgt := 80) hx hb dX6_wordFrom_76 (by decide) ?_
  refine lv_istore (lv' := [(4, .int 1), (5, .int 4), (3, .int 4), (0, .ref h0), (1, .int 13), (2, .int 18)]) hx hb dX6_wordFrom_80 hl (by decide) rfl (fun ls hl => ?_)
  refine lv_iinc (v := 5) (lv' := [(5, .int 5), (4, .int 1), (3, .int 4), (0, .ref h0), (1, .int 13), (2, .int 18)]) hx hb dX6_wordFrom_82 hl (k := 1) rfl (by decide) (by decide) rfl (fun ls hl => ?_)
  refine lv_goto (tgt := 26) hx hb dX6_wordFrom_85 (by decide) ?_
  refine lv_iload hx hb dX6_wordFrom_26 (lv_at hl 0 rfl) ?_
  refine lv_bipush (v := 8) hx hb dX6_wordFrom_28 (by decide) ?_
  refine lv_icmp_ge (tgt := 88) hx hb dX6_wordFrom_30 (by decide) (fun c_118 => ?_) (fun c_118 => ?_)
  · exact absurd c_118 (by decide)
  refine lv_iload hx hb dX6_wordFrom_33 (lv_at hl 1 rfl) ?_
  refine lv_if_eq (tgt := 88) hx hb dX6_wordFrom_35 (by decide) (fun c_119 => ?_) (fun c_119 => ?_)
  · exact absurd c_119 (by decide)
  refine lv_aload_n hx hb dX6_wordFrom_38 rfl (lv_at hl 3 rfl) ?_
  refine va_get (D := G.1) (ci := 6) (v := .ref wo) (C := RX6) (T := TX6) (N := 42) hx hb hts hiX6 hown hK hP 2 rfl rfl 23 (by decide) kf49 (fun _ h9 => h9) rfl dX6_wordFrom_39 ?_
  refine lv_bipush (v := 8) hx hb dX6_wordFrom_42 (by decide) ?_
  refine lv_iload_n hx hb dX6_wordFrom_44 rfl (lv_at hl 2 rfl) ?_
  refine lv_imul hx hb dX6_wordFrom_45 ?_
  refine lv_topi (fun v_120 ev_120 => ?_)
  have ev_120 : v_120 = 32 := ev_120.trans (by decide)
  subst ev_120
  refine lv_iload hx hb dX6_wordFrom_46 (lv_at hl 0 rfl) ?_
  refine lv_iadd hx hb dX6_wordFrom_48 ?_
  refine lv_topi (fun v_121 ev_121 => ?_)
  have ev_121 : v_121 = 37 := ev_121.trans (by decide)
  subst ev_121
  refine va_iald (D := G.1) hx hb hK hP 1 0 rfl rfl (i := 37) (gIn (by decide)) dX6_wordFrom_49 ?_
  refine lv_topi (fun v_122 ev_122 => ?_)
  have ev_122 : v_122 = 32 := ev_122.trans (by decide)
  subst ev_122
  refine lv_iload_n hx hb dX6_wordFrom_50 rfl (lv_at hl 4 rfl) ?_
  refine lv_iload hx hb dX6_wordFrom_51 (lv_at hl 0 rfl) ?_
  refine lv_iadd hx hb dX6_wordFrom_53 ?_
  refine lv_topi (fun v_123 ev_123 => ?_)
  have ev_123 : v_123 = 18 := ev_123.trans (by decide)
  subst ev_123
  refine lv_iload_n hx hb dX6_wordFrom_54 rfl (lv_at hl 5 rfl) ?_
  refine lv_icmp_ge (tgt := 70) hx hb dX6_wordFrom_55 (by decide) (fun c_124 => ?_) (fun c_124 => ?_)
  rotate_left
  · exact absurd (by decide) c_124
  refine lv_bipush (v := 32) hx hb dX6_wordFrom_70 (by decide) ?_
  refine lv_icmp_ne (tgt := 79) hx hb dX6_wordFrom_72 (by decide) (fun c_125 => ?_) (fun c_125 => ?_)
  · exact absurd (by decide) c_125
  refine lv_iconst (v := 1) hx hb dX6_wordFrom_75 (by decide) ?_
  refine lv_goto (tgt := 80) hx hb dX6_wordFrom_76 (by decide) ?_
  refine lv_istore (lv' := [(4, .int 1), (5, .int 5), (3, .int 4), (0, .ref h0), (1, .int 13), (2, .int 18)]) hx hb dX6_wordFrom_80 hl (by decide) rfl (fun ls hl => ?_)
  refine lv_iinc (v := 6) (lv' := [(5, .int 6), (4, .int 1), (3, .int 4), (0, .ref h0), (1, .int 13), (2, .int 18)]) hx hb dX6_wordFrom_82 hl (k := 1) rfl (by decide) (by decide) rfl (fun ls hl => ?_)
  refine lv_goto (tgt := 26) hx hb dX6_wordFrom_85 (by decide) ?_
  refine lv_iload hx hb dX6_wordFrom_26 (lv_at hl 0 rfl) ?_
  refine lv_bipush (v := 8) hx hb dX6_wordFrom_28 (by decide) ?_
  refine lv_icmp_ge (tgt := 88) hx hb dX6_wordFrom_30 (by decide) (fun c_126 => ?_) (fun c_126 => ?_)
  · exact absurd c_126 (by decide)
  refine lv_iload hx hb dX6_wordFrom_33 (lv_at hl 1 rfl) ?_
  refine lv_if_eq (tgt := 88) hx hb dX6_wordFrom_35 (by decide) (fun c_127 => ?_) (fun c_127 => ?_)
  · exact absurd c_127 (by decide)
  refine lv_aload_n hx hb dX6_wordFrom_38 rfl (lv_at hl 3 rfl) ?_
  refine va_get (D := G.1) (ci := 6) (v := .ref wo) (C := RX6) (T := TX6) (N := 42) hx hb hts hiX6 hown hK hP 2 rfl rfl 23 (by decide) kf49 (fun _ h9 => h9) rfl dX6_wordFrom_39 ?_
  refine lv_bipush (v := 8) hx hb dX6_wordFrom_42 (by decide) ?_
  refine lv_iload_n hx hb dX6_wordFrom_44 rfl (lv_at hl 2 rfl) ?_
  refine lv_imul hx hb dX6_wordFrom_45 ?_
  refine lv_topi (fun v_128 ev_128 => ?_)
  have ev_128 : v_128 = 32 := ev_128.trans (by decide)
  subst ev_128
  refine lv_iload hx hb dX6_wordFrom_46 (lv_at hl 0 rfl) ?_
  refine lv_iadd hx hb dX6_wordFrom_48 ?_
  refine lv_topi (fun v_129 ev_129 => ?_)
  have ev_129 : v_129 = 38 := ev_129.trans (by decide)
  subst ev_129
  refine va_iald (D := G.1) hx hb hK hP 1 0 rfl rfl (i := 38) (gIn (by decide)) dX6_wordFrom_49 ?_
  refine lv_topi (fun v_130 ev_130 => ?_)
  have ev_130 : v_130 = 32 := ev_130.trans (by decide)
  subst ev_130
  refine lv_iload_n hx hb dX6_wordFrom_50 rfl (lv_at hl 4 rfl) ?_
  refine lv_iload hx hb dX6_wordFrom_51 (lv_at hl 0 rfl) ?_
  refine lv_iadd hx hb dX6_wordFrom_53 ?_
  refine lv_topi (fun v_131 ev_131 => ?_)
  have ev_131 : v_131 = 19 := ev_131.trans (by decide)
  subst ev_131
  refine lv_iload_n hx hb dX6_wordFrom_54 rfl (lv_at hl 5 rfl) ?_
  refine lv_icmp_ge (tgt := 70) hx hb dX6_wordFrom_55 (by decide) (fun c_132 => ?_) (fun c_132 => ?_)
  rotate_left
  · exact absurd (by decide) c_132
  refine lv_bipush (v := 32) hx hb dX6_wordFrom_70 (by decide) ?_
  refine lv_icmp_ne (tgt := 79) hx hb dX6_wordFrom_72 (by decide) (fun c_133 => ?_) (fun c_133 => ?_)
  · exact absurd (by decide) c_133
  refine lv_iconst (v := 1) hx hb dX6_wordFrom_75 (by decide) ?_
  refine lv_goto (tgt := 80) hx hb dX6_wordFrom_76 (by decide) ?_
  refine lv_istore (lv' := [(4, .int 1), (5, .int 6), (3, .int 4), (0, .ref h0), (1, .int 13), (2, .int 18)]) hx hb dX6_wordFrom_80 hl (by decide) rfl (fun ls hl => ?_)
  refine lv_iinc (v := 7) (lv' := [(5, .int 7), (4, .int 1), (3, .int 4), (0, .ref h0), (1, .int 13), (2, .int 18)]) hx hb dX6_wordFrom_82 hl (k := 1) rfl (by decide) (by decide) rfl (fun ls hl => ?_)
  refine lv_goto (tgt := 26) hx hb dX6_wordFrom_85 (by decide) ?_
  refine lv_iload hx hb dX6_wordFrom_26 (lv_at hl 0 rfl) ?_
  refine lv_bipush (v := 8) hx hb dX6_wordFrom_28 (by decide) ?_
  refine lv_icmp_ge (tgt := 88) hx hb dX6_wordFrom_30 (by decide) (fun c_134 => ?_) (fun c_134 => ?_)
  · exact absurd c_134 (by decide)
  refine lv_iload hx hb dX6_wordFrom_33 (lv_at hl 1 rfl) ?_
  refine lv_if_eq (tgt := 88) hx hb dX6_wordFrom_35 (by decide) (fun c_135 => ?_) (fun c_135 => ?_)
  · exact absurd c_135 (by decide)
  refine lv_aload_n hx hb dX6_wordFrom_38 rfl (lv_at hl 3 rfl) ?_
  refine va_get (D := G.1) (ci := 6) (v := .ref wo) (C := RX6) (T := TX6) (N := 42) hx hb hts hiX6 hown hK hP 2 rfl rfl 23 (by decide) kf49 (fun _ h9 => h9) rfl dX6_wordFrom_39 ?_
  refine lv_bipush (v := 8) hx hb dX6_wordFrom_42 (by decide) ?_
  refine lv_iload_n hx hb dX6_wordFrom_44 rfl (lv_at hl 2 rfl) ?_
  refine lv_imul hx hb dX6_wordFrom_45 ?_
  refine lv_topi (fun v_136 ev_136 => ?_)
  have ev_136 : v_136 = 32 := ev_136.trans (by decide)
  subst ev_136
  refine lv_iload hx hb dX6_wordFrom_46 (lv_at hl 0 rfl) ?_
  refine lv_iadd hx hb dX6_wordFrom_48 ?_
  refine lv_topi (fun v_137 ev_137 => ?_)
  have ev_137 : v_137 = 39 := ev_137.trans (by decide)
  subst ev_137
  refine va_iald (D := G.1) hx hb hK hP 1 0 rfl rfl (i := 39) (gIn (by decide)) dX6_wordFrom_49 ?_
  refine lv_topi (fun v_138 ev_138 => ?_)
  have ev_138 : v_138 = 32 := ev_138.trans (by decide)
  subst ev_138
  refine lv_iload_n hx hb dX6_wordFrom_50 rfl (lv_at hl 4 rfl) ?_
  refine lv_iload hx hb dX6_wordFrom_51 (lv_at hl 0 rfl) ?_
  refine lv_iadd hx hb dX6_wordFrom_53 ?_
  refine lv_topi (fun v_139 ev_139 => ?_)
  have ev_139 : v_139 = 20 := ev_139.trans (by decide)
  subst ev_139
  refine lv_iload_n hx hb dX6_wordFrom_54 rfl (lv_at hl 5 rfl) ?_
  refine lv_icmp_ge (tgt := 70) hx hb dX6_wordFrom_55 (by decide) (fun c_140 => ?_) (fun c_140 => ?_)
  rotate_left
  · exact absurd (by decide) c_140
  refine lv_bipush (v := 32) hx hb dX6_wordFrom_70 (by decide) ?_
  refine lv_icmp_ne (tgt := 79) hx hb dX6_wordFrom_72 (by decide) (fun c_141 => ?_) (fun c_141 => ?_)
  · exact absurd (by decide) c_141
  refine lv_iconst (v := 1) hx hb dX6_wordFrom_75 (by decide) ?_
  refine lv_goto (tgt := 80) hx hb dX6_wordFrom_76 (by decide) ?_
  refine lv_istore (lv' := [(4, .int 1), (5, .int 7), (3, .int 4), (0, .ref h0), (1, .int 13), (2, .int 18)]) hx hb dX6_wordFrom_80 hl (by decide) rfl (fun ls hl => ?_)
  refine lv_iinc (v := 8) (lv' := [(5, .int 8), (4, .int 1), (3, .int 4), (0, .ref h0), (1, .int 13), (2, .int 18)]) hx hb dX6_wordFrom_82 hl (k := 1) rfl (by decide) (by decide) rfl (fun ls hl => ?_)
  refine lv_goto (tgt := 26) hx hb dX6_wordFrom_85 (by decide) ?_
  refine lv_iload hx hb dX6_wordFrom_26 (lv_at hl 0 rfl) ?_
  refine lv_bipush (v := 8) hx hb dX6_wordFrom_28 (by decide) ?_
  refine lv_icmp_ge (tgt := 88) hx hb dX6_wordFrom_30 (by decide) (fun c_142 => ?_) (fun c_142 => ?_)
  rotate_left
  · exact absurd (by decide) c_142
  refine lv_iload hx hb dX6_wordFrom_88 (lv_at hl 1 rfl) ?_
  refine lv_if_eq (tgt := 95) hx hb dX6_wordFrom_90 (by decide) (fun c_143 => ?_) (fun c_143 => ?_)
  · exact absurd c_143 (by decide)
  refine lv_iload_n hx hb dX6_wordFrom_93 rfl (lv_at hl 2 rfl) ?_
  have hP9 := hP.sub (ws' := [(tp, .inl (G.2.1, 160, .inl (gPf tB 40))), (wo, .inl (G.2.1, 96, .inl (gPf tW 96))), (h0, .inr (6, [.int 0, .ref kd, .ref mo, .ref st, .int 0, .ref ro, .ref tp, .int 40, .ref cd, .ref sr, .int 0, .int 0, .int 0, .ref ir, .ref ih, .ref ss, .ref sq, .ref ce, .ref lw, .int 18, .int 13, .int 0, .int 0, .ref wo, .ref he, .int 1, .int 0, .int 1, .ref sk, .ref na, .ref kp, .int 0, .int 0, .int 0, .int 0, .ref gb, .ref go, .ref fa, .ref ga, .int 0, .int 0, .ref vo]))]) [0, 1, 2] rfl
  have hD9 := hD.sub (ws' := [(tp, .inl (G.2.1, 160, .inl (gPf tB 40))), (wo, .inl (G.2.1, 96, .inl (gPf tW 96))), (h0, .inr (6, [.int 0, .ref kd, .ref mo, .ref st, .int 0, .ref ro, .ref tp, .int 40, .ref cd, .ref sr, .int 0, .int 0, .int 0, .ref ir, .ref ih, .ref ss, .ref sq, .ref ce, .ref lw, .int 18, .int 13, .int 0, .int 0, .ref wo, .ref he, .int 1, .int 0, .int 1, .ref sk, .ref na, .ref kp, .int 0, .int 0, .int 0, .int 0, .ref gb, .ref go, .ref fa, .ref ga, .int 0, .int 0, .ref vo]))]) [0, 1, 2] (by decide) rfl
  have hpost : (fun (r : Int32) (u : Unit) => match u with | _ => r = 4) 4 () := by first | rfl | trivial
  exact W.iret (v := 4) hx hb hr (fun t ht hW => ⟨⟨4, (), rfl, hpost, by rw [ht]; exact hP9, va_K.moved hW.alike hK, hD9⟩, hS.F ht⟩) hS.2.2 dX6_wordFrom_94
abbrev q_X6_next_z23 (G : gG) (h0 tp wo kd mo st ro cd sr ir ih ss sq ce lw he sk na kp gb go fa ga vo : Nat) (A : Nat → Prop) : Array Value → State → Outcome → State → Prop := va_Qv (fun (u : Unit) => match u with | _ => True) (fun (u : Unit) t => match u with | _ => va_P G.1 vwCl [(tp, .inl (G.2.1, 160, .inl (gPf tB 40))), (wo, .inl (G.2.1, 96, .inl (gPf tW 96))), (h0, .inr (6, [.int 0, .ref kd, .ref mo, .ref st, .int 0, .ref ro, .ref tp, .int 40, .ref cd, .ref sr, .int 0, .int 0, .int 0, .ref ir, .ref ih, .ref ss, .ref sq, .ref ce, .ref lw, .int 18, .int 13, .int 2, .int 1, .ref wo, .ref he, .int 1, .int 0, .int 1, .ref sk, .ref na, .ref kp, .int 0, .int 0, .int 0, .int 0, .ref gb, .ref go, .ref fa, .ref ga, .int 0, .int 0, .ref vo]))] t.heap ∧ gK G t ∧ va_D A [(tp, .inl (G.2.1, 160, .inl (gPf tB 40))), (wo, .inl (G.2.1, 96, .inl (gPf tW 96))), (h0, .inr (6, [.int 0, .ref kd, .ref mo, .ref st, .int 0, .ref ro, .ref tp, .int 40, .ref cd, .ref sr, .int 0, .int 0, .int 0, .ref ir, .ref ih, .ref ss, .ref sq, .ref ce, .ref lw, .int 18, .int 13, .int 2, .int 1, .ref wo, .ref he, .int 1, .int 0, .int 1, .ref sk, .ref na, .ref kp, .int 0, .int 0, .int 0, .int 0, .ref gb, .ref go, .ref fa, .ref ga, .int 0, .int 0, .ref vo]))]) A
set_option maxHeartbeats 4000000 in
set_option maxRecDepth 100000 in
theorem c_X6_next_z23 (l : Launch) (G : gG) (h0 tp wo kd mo st ro cd sr ir ih ss sq ce lw he sk na kp gb go fa ga vo : Nat) (sz : Nat) : Met l yX6_next wsX6_next ({ frames := 1, cells := 0, slots := 0, locals := 25 }) (gPre G [.ref h0] [(tp, .inl (G.2.1, 160, .inl (gPf tB 40))), (wo, .inl (G.2.1, 96, .inl (gPf tW 96))), (h0, .inr (6, [.int 0, .ref kd, .ref mo, .ref st, .int 0, .ref ro, .ref tp, .int 40, .ref cd, .ref sr, .int 0, .int 0, .int 0, .ref ir, .ref ih, .ref ss, .ref sq, .ref ce, .ref lw, .int 12, .int 11, .int 45, .int 0, .ref wo, .ref he, .int 1, .int 0, .int 1, .ref sk, .ref na, .ref kp, .int 0, .int 0, .int 0, .int 0, .ref gb, .ref go, .ref fa, .ref ga, .int 0, .int 0, .ref vo]))] sz) (q_X6_next_z23 G h0 tp wo kd mo st ro cd sr ir ih ss sq ce lw he sk na kp gb go fa ga vo (va_A [(tp, .inl (G.2.1, 160, .inl (gPf tB 40))), (wo, .inl (G.2.1, 96, .inl (gPf tW 96))), (h0, .inr (6, [.int 0, .ref kd, .ref mo, .ref st, .int 0, .ref ro, .ref tp, .int 40, .ref cd, .ref sr, .int 0, .int 0, .int 0, .ref ir, .ref ih, .ref ss, .ref sq, .ref ce, .ref lw, .int 12, .int 11, .int 45, .int 0, .ref wo, .ref he, .int 1, .int 0, .int 1, .ref sk, .ref na, .ref kp, .int 0, .int 0, .int 0, .int 0, .ref gb, .ref go, .ref fa, .ref ga, .int 0, .int 0, .ref vo]))] sz)) 0 0 (va_A [(tp, .inl (G.2.1, 160, .inl (gPf tB 40))), (wo, .inl (G.2.1, 96, .inl (gPf tW 96))), (h0, .inr (6, [.int 0, .ref kd, .ref mo, .ref st, .int 0, .ref ro, .ref tp, .int 40, .ref cd, .ref sr, .int 0, .int 0, .int 0, .ref ir, .ref ih, .ref ss, .ref sq, .ref ce, .ref lw, .int 12, .int 11, .int 45, .int 0, .ref wo, .ref he, .int 1, .int 0, .int 1, .ref sk, .ref na, .ref kp, .int 0, .int 0, .int 0, .int 0, .ref gb, .ref go, .ref fa, .ref ga, .int 0, .int 0, .ref vo]))] sz) := by
  refine Met.ofW (cc := cX6_next) (maxL := 3) (ret := none) (by decide) rfl ?_
  intro p e s m args below meth c s₁ B hml hv
  obtain ⟨rfl, hsz, hP, hK, hD0⟩ := hv
  have hx := B.exec
  have hb := B.bytes
  have hr := B.returns
  have hts := atoms_spec (ws := wsX6_next) B.pre
  have hown : s.vm.findClass RX6 = some m.cls := findClass_of_methodNamed B.named
  have hlocks := B.notSynchronized
  subst hsz
  have hD := hD0.self (sz := s.heap.size)
  generalize hAe : va_A [(tp, .inl (G.2.1, 160, .inl (gPf tB 40))), (wo, .inl (G.2.1, 96, .inl (gPf tW 96))), (h0, .inr (6, [.int 0, .ref kd, .ref mo, .ref st, .int 0, .ref ro, .ref tp, .int 40, .ref cd, .ref sr, .int 0, .int 0, .int 0, .ref ir, .ref ih, .ref ss, .ref sq, .ref ce, .ref lw, .int 12, .int 11, .int 45, .int 0, .ref wo, .ref he, .int 1, .int 0, .int 1, .ref sk, .ref na, .ref kp, .int 0, .int 0, .int 0, .int 0, .ref gb, .ref go, .ref fa, .ref ga, .int 0, .int 0, .ref vo]))] s.heap.size = A at hD ⊢
  have hA : ∀ q : Nat, s.heap.size ≤ q → A q := fun q h => by rw [← hAe]; exact Or.inr h
  have hS : va_S A s.heap s.heap [] := va_S.rf
  have hP : va_P G.1 vwCl [(tp, .inl (G.2.1, 160, .inl (gPf tB 40))), (wo, .inl (G.2.1, 96, .inl (gPf tW 96))), (h0, .inr (6, [.int 0, .ref kd, .ref mo, .ref st, .int 0, .ref ro, .ref tp, .int 40, .ref cd, .ref sr, .int 0, .int 0, .int 0, .ref ir, .ref ih, .ref ss, .ref sq, .ref ce, .ref lw, .int 12, .int 11, .int 45, .int 0, .ref wo, .ref he, .int 1, .int 0, .int 1, .ref sk, .ref na, .ref kp, .int 0, .int 0, .int 0, .int 0, .ref gb, .ref go, .ref fa, .ref ga, .int 0, .int 0, .ref vo]))] s.heap := hP
  have hD : va_D A [(tp, .inl (G.2.1, 160, .inl (gPf tB 40))), (wo, .inl (G.2.1, 96, .inl (gPf tW 96))), (h0, .inr (6, [.int 0, .ref kd, .ref mo, .ref st, .int 0, .ref ro, .ref tp, .int 40, .ref cd, .ref sr, .int 0, .int 0, .int 0, .ref ir, .ref ih, .ref ss, .ref sq, .ref ce, .ref lw, .int 12, .int 11, .int 45, .int 0, .ref wo, .ref he, .int 1, .int 0, .int 1, .ref sk, .ref na, .ref kp, .int 0, .int 0, .int 0, .int 0, .ref gb, .ref go, .ref fa, .ref ga, .int 0, .int 0, .ref vo]))] := hD
  have hl := lv_entry ([.ref h0]) (n := 3) (Nat.le_of_ble_eq_true rfl)
  rw [lg_entry_eq]
  generalize (lg_sl ([.ref h0]) ++ List.replicate (3 - (lg_sl ([.ref h0])).length) Slot.unset).toArray = ls at hl ⊢
  have hl : lv_has ls 3 [(0, .ref h0)] := hl
  have kf111 := hts (.fieldLink RX6 111 "PebbleInShoeModel" "at" "I") (by decide +kernel)
  have hiX6 := (by decide +kernel : ∀ w ∈ wsX60, w ∈ wsX6_next)
  have kf80 := hts (.fieldLink RX6 80 "PebbleInShoeModel" "taped" "I") (by decide +kernel)
  have kf22 := hts (.fieldLink RX6 22 "PebbleInShoeModel" "tape" "[I") (by decide +kernel)
  have kf114 := hts (.fieldLink RX6 114 "PebbleInShoeModel" "begun" "I") (by decide +kernel)
  have kf117 := hts (.fieldLink RX6 117 "PebbleInShoeModel" "token" "I") (by decide +kernel)
  have kf120 := hts (.fieldLink RX6 120 "PebbleInShoeModel" "value" "I") (by decide +kernel)
  refine lv_aload_n hx hb dX6_next_0 rfl (lv_at hl 0 rfl) ?_
  refine va_get (D := G.1) (ci := 6) (v := .int 12) (C := RX6) (T := TX6) (N := 42) hx hb hts hiX6 hown hK hP 2 rfl rfl 19 (by decide) kf111 (fun _ h9 => h9) rfl dX6_next_1 ?_
  refine lv_aload_n hx hb dX6_next_4 rfl (lv_at hl 0 rfl) ?_
  refine va_get (D := G.1) (ci := 6) (v := .int 40) (C := RX6) (T := TX6) (N := 42) hx hb hts hiX6 hown hK hP 2 rfl rfl 7 (by decide) kf80 (fun _ h9 => h9) rfl dX6_next_5 ?_
  refine lv_icmp_ge (tgt := 52) hx hb dX6_next_8 (by decide) (fun c_1 => ?_) (fun c_1 => ?_)
  · exact absurd c_1 (by decide)
  refine lv_aload_n hx hb dX6_next_11 rfl (lv_at hl 0 rfl) ?_
  refine va_get (D := G.1) (ci := 6) (v := .ref tp) (C := RX6) (T := TX6) (N := 42) hx hb hts hiX6 hown hK hP 2 rfl rfl 6 (by decide) kf22 (fun _ h9 => h9) rfl dX6_next_12 ?_
  refine lv_aload_n hx hb dX6_next_15 rfl (lv_at hl 0 rfl) ?_
  refine va_get (D := G.1) (ci := 6) (v := .int 12) (C := RX6) (T := TX6) (N := 42) hx hb hts hiX6 hown hK hP 2 rfl rfl 19 (by decide) kf111 (fun _ h9 => h9) rfl dX6_next_16 ?_
  refine va_iald (D := G.1) hx hb hK hP 0 0 rfl rfl (i := 12) (gIn (by decide)) dX6_next_19 ?_
  refine lv_topi (fun v_2 ev_2 => ?_)
  have ev_2 : v_2 = 32 := ev_2.trans (by decide)
  subst ev_2
  refine lv_bipush (v := 32) hx hb dX6_next_20 (by decide) ?_
  refine lv_icmp_eq (tgt := 39) hx hb dX6_next_22 (by decide) (fun c_3 => ?_) (fun c_3 => ?_)
  rotate_left
  · exact absurd (by decide) c_3
  refine lv_aload_n hx hb dX6_next_39 rfl (lv_at hl 0 rfl) ?_
  refine lv_dup hx hb dX6_next_40 rfl ?_
  refine va_get (D := G.1) (ci := 6) (v := .int 12) (C := RX6) (T := TX6) (N := 42) hx hb hts hiX6 hown hK hP 2 rfl rfl 19 (by decide) kf111 (fun _ h9 => h9) rfl dX6_next_41 ?_
  refine lv_iconst (v := 1) hx hb dX6_next_44 (by decide) ?_
  refine lv_iadd hx hb dX6_next_45 ?_
  refine lv_topi (fun v_4 ev_4 => ?_)
  have ev_4 : v_4 = 13 := ev_4.trans (by decide)
  subst ev_4
  refine va_put (D := G.1) (ci := 6) (v := .int 13) (ty := .int) (C := RX6) (T := TX6) (N := 42) hx hb hts hiX6 tyX6 tyX6_ok nmX6 hown hK hP hD hS 2 rfl rfl 19 (by decide) kf111 (fun _ h9 => h9) rfl (by decide +kernel) rfl rfl (Nat.le_of_ble_eq_true rfl) dX6_next_46 (fun H locs hP hD hS => ?_)
  have hP : va_P G.1 vwCl [(tp, .inl (G.2.1, 160, .inl (gPf tB 40))), (wo, .inl (G.2.1, 96, .inl (gPf tW 96))), (h0, .inr (6, [.int 0, .ref kd, .ref mo, .ref st, .int 0, .ref ro, .ref tp, .int 40, .ref cd, .ref sr, .int 0, .int 0, .int 0, .ref ir, .ref ih, .ref ss, .ref sq, .ref ce, .ref lw, .int 13, .int 11, .int 45, .int 0, .ref wo, .ref he, .int 1, .int 0, .int 1, .ref sk, .ref na, .ref kp, .int 0, .int 0, .int 0, .int 0, .ref gb, .ref go, .ref fa, .ref ga, .int 0, .int 0, .ref vo]))] H := hP
  have hD : va_D A [(tp, .inl (G.2.1, 160, .inl (gPf tB 40))), (wo, .inl (G.2.1, 96, .inl (gPf tW 96))), (h0, .inr (6, [.int 0, .ref kd, .ref mo, .ref st, .int 0, .ref ro, .ref tp, .int 40, .ref cd, .ref sr, .int 0, .int 0, .int 0, .ref ir, .ref ih, .ref ss, .ref sq, .ref ce, .ref lw, .int 13, .int 11, .int 45, .int 0, .ref wo, .ref he, .int 1, .int 0, .int 1, .ref sk, .ref na, .ref kp, .int 0, .int 0, .int 0, .int 0, .ref gb, .ref go, .ref fa, .ref ga, .int 0, .int 0, .ref vo]))] := hD
  refine lv_goto (tgt := 0) hx hb dX6_next_49 (by decide) ?_
  refine lv_aload_n hx hb dX6_next_0 rfl (lv_at hl 0 rfl) ?_
  refine va_get (D := G.1) (ci := 6) (v := .int 13) (C := RX6) (T := TX6) (N := 42) hx hb hts hiX6 hown hK hP 2 rfl rfl 19 (by decide) kf111 (fun _ h9 => h9) rfl dX6_next_1 ?_
  refine lv_aload_n hx hb dX6_next_4 rfl (lv_at hl 0 rfl) ?_
  refine va_get (D := G.1) (ci := 6) (v := .int 40) (C := RX6) (T := TX6) (N := 42) hx hb hts hiX6 hown hK hP 2 rfl rfl 7 (by decide) kf80 (fun _ h9 => h9) rfl dX6_next_5 ?_
  refine lv_icmp_ge (tgt := 52) hx hb dX6_next_8 (by decide) (fun c_5 => ?_) (fun c_5 => ?_)
  · exact absurd c_5 (by decide)
  refine lv_aload_n hx hb dX6_next_11 rfl (lv_at hl 0 rfl) ?_
  refine va_get (D := G.1) (ci := 6) (v := .ref tp) (C := RX6) (T := TX6) (N := 42) hx hb hts hiX6 hown hK hP 2 rfl rfl 6 (by decide) kf22 (fun _ h9 => h9) rfl dX6_next_12 ?_
  refine lv_aload_n hx hb dX6_next_15 rfl (lv_at hl 0 rfl) ?_
  refine va_get (D := G.1) (ci := 6) (v := .int 13) (C := RX6) (T := TX6) (N := 42) hx hb hts hiX6 hown hK hP 2 rfl rfl 19 (by decide) kf111 (fun _ h9 => h9) rfl dX6_next_16 ?_
  refine va_iald (D := G.1) hx hb hK hP 0 0 rfl rfl (i := 13) (gIn (by decide)) dX6_next_19 ?_
  refine lv_topi (fun v_6 ev_6 => ?_)
  have ev_6 : v_6 = 114 := ev_6.trans (by decide)
  subst ev_6
  refine lv_bipush (v := 32) hx hb dX6_next_20 (by decide) ?_
  refine lv_icmp_eq (tgt := 39) hx hb dX6_next_22 (by decide) (fun c_7 => ?_) (fun c_7 => ?_)
  · exact absurd c_7 (by decide)
  refine lv_aload_n hx hb dX6_next_25 rfl (lv_at hl 0 rfl) ?_
  refine va_get (D := G.1) (ci := 6) (v := .ref tp) (C := RX6) (T := TX6) (N := 42) hx hb hts hiX6 hown hK hP 2 rfl rfl 6 (by decide) kf22 (fun _ h9 => h9) rfl dX6_next_26 ?_
  refine lv_aload_n hx hb dX6_next_29 rfl (lv_at hl 0 rfl) ?_
  refine va_get (D := G.1) (ci := 6) (v := .int 13) (C := RX6) (T := TX6) (N := 42) hx hb hts hiX6 hown hK hP 2 rfl rfl 19 (by decide) kf111 (fun _ h9 => h9) rfl dX6_next_30 ?_
  refine va_iald (D := G.1) hx hb hK hP 0 0 rfl rfl (i := 13) (gIn (by decide)) dX6_next_33 ?_
  refine lv_topi (fun v_8 ev_8 => ?_)
  have ev_8 : v_8 = 114 := ev_8.trans (by decide)
  subst ev_8
  refine lv_bipush (v := 10) hx hb dX6_next_34 (by decide) ?_
  refine lv_icmp_ne (tgt := 52) hx hb dX6_next_36 (by decide) (fun c_9 => ?_) (fun c_9 => ?_)
  rotate_left
  · exact absurd c_9 (by decide)
  refine lv_aload_n hx hb dX6_next_52 rfl (lv_at hl 0 rfl) ?_
  refine lv_aload_n hx hb dX6_next_53 rfl (lv_at hl 0 rfl) ?_
  refine va_get (D := G.1) (ci := 6) (v := .int 13) (C := RX6) (T := TX6) (N := 42) hx hb hts hiX6 hown hK hP 2 rfl rfl 19 (by decide) kf111 (fun _ h9 => h9) rfl dX6_next_54 ?_
  refine va_put (D := G.1) (ci := 6) (v := .int 13) (ty := .int) (C := RX6) (T := TX6) (N := 42) hx hb hts hiX6 tyX6 tyX6_ok nmX6 hown hK hP hD hS 2 rfl rfl 20 (by decide) kf114 (fun _ h9 => h9) rfl (by decide +kernel) rfl rfl (Nat.le_of_ble_eq_true rfl) dX6_next_57 (fun H locs hP hD hS => ?_)
  have hP : va_P G.1 vwCl [(tp, .inl (G.2.1, 160, .inl (gPf tB 40))), (wo, .inl (G.2.1, 96, .inl (gPf tW 96))), (h0, .inr (6, [.int 0, .ref kd, .ref mo, .ref st, .int 0, .ref ro, .ref tp, .int 40, .ref cd, .ref sr, .int 0, .int 0, .int 0, .ref ir, .ref ih, .ref ss, .ref sq, .ref ce, .ref lw, .int 13, .int 13, .int 45, .int 0, .ref wo, .ref he, .int 1, .int 0, .int 1, .ref sk, .ref na, .ref kp, .int 0, .int 0, .int 0, .int 0, .ref gb, .ref go, .ref fa, .ref ga, .int 0, .int 0, .ref vo]))] H := hP
  have hD : va_D A [(tp, .inl (G.2.1, 160, .inl (gPf tB 40))), (wo, .inl (G.2.1, 96, .inl (gPf tW 96))), (h0, .inr (6, [.int 0, .ref kd, .ref mo, .ref st, .int 0, .ref ro, .ref tp, .int 40, .ref cd, .ref sr, .int 0, .int 0, .int 0, .ref ir, .ref ih, .ref ss, .ref sq, .ref ce, .ref lw, .int 13, .int 13, .int 45, .int 0, .ref wo, .ref he, .int 1, .int 0, .int 1, .ref sk, .ref na, .ref kp, .int 0, .int 0, .int 0, .int 0, .ref gb, .ref go, .ref fa, .ref ga, .int 0, .int 0, .ref vo]))] := hD
  refine lv_aload_n hx hb dX6_next_60 rfl (lv_at hl 0 rfl) ?_
  refine lv_iconst (v := 0) hx hb dX6_next_61 (by decide) ?_
  refine va_put (D := G.1) (ci := 6) (v := .int 0) (ty := .int) (C := RX6) (T := TX6) (N := 42) hx hb hts hiX6 tyX6 tyX6_ok nmX6 hown hK hP hD hS 2 rfl rfl 21 (by decide) kf117 (fun _ h9 => h9) rfl (by decide +kernel) rfl rfl (Nat.le_of_ble_eq_true rfl) dX6_next_62 (fun H locs hP hD hS => ?_)
  have hP : va_P G.1 vwCl [(tp, .inl (G.2.1, 160, .inl (gPf tB 40))), (wo, .inl (G.2.1, 96, .inl (gPf tW 96))), (h0, .inr (6, [.int 0, .ref kd, .ref mo, .ref st, .int 0, .ref ro, .ref tp, .int 40, .ref cd, .ref sr, .int 0, .int 0, .int 0, .ref ir, .ref ih, .ref ss, .ref sq, .ref ce, .ref lw, .int 13, .int 13, .int 0, .int 0, .ref wo, .ref he, .int 1, .int 0, .int 1, .ref sk, .ref na, .ref kp, .int 0, .int 0, .int 0, .int 0, .ref gb, .ref go, .ref fa, .ref ga, .int 0, .int 0, .ref vo]))] H := hP
  have hD : va_D A [(tp, .inl (G.2.1, 160, .inl (gPf tB 40))), (wo, .inl (G.2.1, 96, .inl (gPf tW 96))), (h0, .inr (6, [.int 0, .ref kd, .ref mo, .ref st, .int 0, .ref ro, .ref tp, .int 40, .ref cd, .ref sr, .int 0, .int 0, .int 0, .ref ir, .ref ih, .ref ss, .ref sq, .ref ce, .ref lw, .int 13, .int 13, .int 0, .int 0, .ref wo, .ref he, .int 1, .int 0, .int 1, .ref sk, .ref na, .ref kp, .int 0, .int 0, .int 0, .int 0, .ref gb, .ref go, .ref fa, .ref ga, .int 0, .int 0, .ref vo]))] := hD
  refine lv_aload_n hx hb dX6_next_65 rfl (lv_at hl 0 rfl) ?_
  refine lv_iconst (v := 0) hx hb dX6_next_66 (by decide) ?_
  refine va_put (D := G.1) (ci := 6) (v := .int 0) (ty := .int) (C := RX6) (T := TX6) (N := 42) hx hb hts hiX6 tyX6 tyX6_ok nmX6 hown hK hP hD hS 2 rfl rfl 22 (by decide) kf120 (fun _ h9 => h9) rfl (by decide +kernel) rfl rfl (Nat.le_of_ble_eq_true rfl) dX6_next_67 (fun H locs hP hD hS => ?_)
  have hP : va_P G.1 vwCl [(tp, .inl (G.2.1, 160, .inl (gPf tB 40))), (wo, .inl (G.2.1, 96, .inl (gPf tW 96))), (h0, .inr (6, [.int 0, .ref kd, .ref mo, .ref st, .int 0, .ref ro, .ref tp, .int 40, .ref cd, .ref sr, .int 0, .int 0, .int 0, .ref ir, .ref ih, .ref ss, .ref sq, .ref ce, .ref lw, .int 13, .int 13, .int 0, .int 0, .ref wo, .ref he, .int 1, .int 0, .int 1, .ref sk, .ref na, .ref kp, .int 0, .int 0, .int 0, .int 0, .ref gb, .ref go, .ref fa, .ref ga, .int 0, .int 0, .ref vo]))] H := hP
  have hD : va_D A [(tp, .inl (G.2.1, 160, .inl (gPf tB 40))), (wo, .inl (G.2.1, 96, .inl (gPf tW 96))), (h0, .inr (6, [.int 0, .ref kd, .ref mo, .ref st, .int 0, .ref ro, .ref tp, .int 40, .ref cd, .ref sr, .int 0, .int 0, .int 0, .ref ir, .ref ih, .ref ss, .ref sq, .ref ce, .ref lw, .int 13, .int 13, .int 0, .int 0, .ref wo, .ref he, .int 1, .int 0, .int 1, .ref sk, .ref na, .ref kp, .int 0, .int 0, .int 0, .int 0, .ref gb, .ref go, .ref fa, .ref ga, .int 0, .int 0, .ref vo]))] := hD
  refine lv_aload_n hx hb dX6_next_70 rfl (lv_at hl 0 rfl) ?_
  refine va_get (D := G.1) (ci := 6) (v := .int 13) (C := RX6) (T := TX6) (N := 42) hx hb hts hiX6 hown hK hP 2 rfl rfl 19 (by decide) kf111 (fun _ h9 => h9) rfl dX6_next_71 ?_
  refine lv_aload_n hx hb dX6_next_74 rfl (lv_at hl 0 rfl) ?_
  refine va_get (D := G.1) (ci := 6) (v := .int 40) (C := RX6) (T := TX6) (N := 42) hx hb hts hiX6 hown hK hP 2 rfl rfl 7 (by decide) kf80 (fun _ h9 => h9) rfl dX6_next_75 ?_
  refine lv_icmp_ne (tgt := 82) hx hb dX6_next_78 (by decide) (fun c_10 => ?_) (fun c_10 => ?_)
  rotate_left
  · exact absurd c_10 (by decide)
  refine lv_aload_n hx hb dX6_next_82 rfl (lv_at hl 0 rfl) ?_
  refine va_get (D := G.1) (ci := 6) (v := .ref tp) (C := RX6) (T := TX6) (N := 42) hx hb hts hiX6 hown hK hP 2 rfl rfl 6 (by decide) kf22 (fun _ h9 => h9) rfl dX6_next_83 ?_
  refine lv_aload_n hx hb dX6_next_86 rfl (lv_at hl 0 rfl) ?_
  refine va_get (D := G.1) (ci := 6) (v := .int 13) (C := RX6) (T := TX6) (N := 42) hx hb hts hiX6 hown hK hP 2 rfl rfl 19 (by decide) kf111 (fun _ h9 => h9) rfl dX6_next_87 ?_
  refine va_iald (D := G.1) hx hb hK hP 0 0 rfl rfl (i := 13) (gIn (by decide)) dX6_next_90 ?_
  refine lv_topi (fun v_11 ev_11 => ?_)
  have ev_11 : v_11 = 114 := ev_11.trans (by decide)
  subst ev_11
  refine lv_istore_n (lv' := [(1, .int 114), (0, .ref h0)]) hx hb dX6_next_91 rfl hl (by decide) rfl (fun ls hl => ?_)
  refine lv_iload_n hx hb dX6_next_92 rfl (lv_at hl 0 rfl) ?_
  refine lv_bipush (v := 97) hx hb dX6_next_93 (by decide) ?_
  refine lv_bipush (v := 122) hx hb dX6_next_95 (by decide) ?_
  have hPc : va_P G.1 vwCl [] H := hP.sub [] rfl
  have hDc : va_D A [] := hD.sub [] (by decide) rfl
  have hFc := va_free (wc := []) hD hS hA [] rfl
  refine va_calli (va_runS (As := [.int 114, .int 97, .int 122]) (rest := []) ⟨hx, hb, hml, hown, hts⟩ (c_X6_in_z24 l G H.size) (va_cwS 3 hts gX6_next_X6_in rfl rfl rfl (by decide +kernel) ⟨Nat.le_of_ble_eq_true rfl, Nat.le_of_ble_eq_true rfl⟩) ⟨gPre_blind, fun U hU hW => gPre_of hU hW hK hPc hDc⟩ rfl rfl hl.1 rfl (lv_room (Nat.le_of_ble_eq_true rfl)) dX6_next_97 ⟨Nat.le_of_ble_eq_true rfl, Nat.le_of_ble_eq_true rfl⟩) hS (fun q _ h => hFc q h) hFc (fun r_12 u t H locs ht hvm w_13 hB hz1 hk1 hS => ?_)
  obtain ⟨hP1, hK1, hD1⟩ := hB
  rw [ht] at hP1
  have hP1 : va_P G.1 vwCl [] H := hP1
  have hD1 : va_D (va_A [] _) [] := hD1
  have w_13 : r_12 = 1 := w_13
  obtain ⟨hP, hD⟩ := va_join (wr := [(tp, .inl (G.2.1, 160, .inl (gPf tB 40))), (wo, .inl (G.2.1, 96, .inl (gPf tW 96))), (h0, .inr (6, [.int 0, .ref kd, .ref mo, .ref st, .int 0, .ref ro, .ref tp, .int 40, .ref cd, .ref sr, .int 0, .int 0, .int 0, .ref ir, .ref ih, .ref ss, .ref sq, .ref ce, .ref lw, .int 13, .int 13, .int 0, .int 0, .ref wo, .ref he, .int 1, .int 0, .int 1, .ref sk, .ref na, .ref kp, .int 0, .int 0, .int 0, .int 0, .ref gb, .ref go, .ref fa, .ref ga, .int 0, .int 0, .ref vo]))]) (w1 := []) hP hD [] [0, 1, 2] rfl rfl (by decide) (by decide) hk1 hFc hP1 hD1
  have hP : va_P G.1 vwCl [(tp, .inl (G.2.1, 160, .inl (gPf tB 40))), (wo, .inl (G.2.1, 96, .inl (gPf tW 96))), (h0, .inr (6, [.int 0, .ref kd, .ref mo, .ref st, .int 0, .ref ro, .ref tp, .int 40, .ref cd, .ref sr, .int 0, .int 0, .int 0, .ref ir, .ref ih, .ref ss, .ref sq, .ref ce, .ref lw, .int 13, .int 13, .int 0, .int 0, .ref wo, .ref he, .int 1, .int 0, .int 1, .ref sk, .ref na, .ref kp, .int 0, .int 0, .int 0, .int 0, .ref gb, .ref go, .ref fa, .ref ga, .int 0, .int 0, .ref vo]))] H := hP
  have hD : va_D A [(tp, .inl (G.2.1, 160, .inl (gPf tB 40))), (wo, .inl (G.2.1, 96, .inl (gPf tW 96))), (h0, .inr (6, [.int 0, .ref kd, .ref mo, .ref st, .int 0, .ref ro, .ref tp, .int 40, .ref cd, .ref sr, .int 0, .int 0, .int 0, .ref ir, .ref ih, .ref ss, .ref sq, .ref ce, .ref lw, .int 13, .int 13, .int 0, .int 0, .ref wo, .ref he, .int 1, .int 0, .int 1, .ref sk, .ref na, .ref kp, .int 0, .int 0, .int 0, .int 0, .ref gb, .ref go, .ref fa, .ref ga, .int 0, .int 0, .ref vo]))] := hD
  have w_13 : r_12 = 1 := w_13
  subst w_13
  refine lv_if_eq (tgt := 217) hx hb dX6_next_100 (by decide) (fun c_14 => ?_) (fun c_14 => ?_)
  · exact absurd c_14 (by decide)
  refine lv_aload_n hx hb dX6_next_103 rfl (lv_at hl 1 rfl) ?_
  refine va_get (D := G.1) (ci := 6) (v := .int 13) (C := RX6) (T := TX6) (N := 42) hx hb hts hiX6 hown hK hP 2 rfl rfl 19 (by decide) kf111 (fun _ h9 => h9) rfl dX6_next_104 ?_
  refine lv_aload_n hx hb dX6_next_107 rfl (lv_at hl 1 rfl) ?_
  refine va_get (D := G.1) (ci := 6) (v := .int 40) (C := RX6) (T := TX6) (N := 42) hx hb hts hiX6 hown hK hP 2 rfl rfl 7 (by decide) kf80 (fun _ h9 => h9) rfl dX6_next_108 ?_
  refine lv_icmp_ge (tgt := 146) hx hb dX6_next_111 (by decide) (fun c_15 => ?_) (fun c_15 => ?_)
  · exact absurd c_15 (by decide)
  refine lv_aload_n hx hb dX6_next_114 rfl (lv_at hl 1 rfl) ?_
  refine va_get (D := G.1) (ci := 6) (v := .ref tp) (C := RX6) (T := TX6) (N := 42) hx hb hts hiX6 hown hK hP 2 rfl rfl 6 (by decide) kf22 (fun _ h9 => h9) rfl dX6_next_115 ?_
  refine lv_aload_n hx hb dX6_next_118 rfl (lv_at hl 1 rfl) ?_
  refine va_get (D := G.1) (ci := 6) (v := .int 13) (C := RX6) (T := TX6) (N := 42) hx hb hts hiX6 hown hK hP 2 rfl rfl 19 (by decide) kf111 (fun _ h9 => h9) rfl dX6_next_119 ?_
  refine va_iald (D := G.1) hx hb hK hP 0 0 rfl rfl (i := 13) (gIn (by decide)) dX6_next_122 ?_
  refine lv_topi (fun v_16 ev_16 => ?_)
  have ev_16 : v_16 = 114 := ev_16.trans (by decide)
  subst ev_16
  refine lv_bipush (v := 97) hx hb dX6_next_123 (by decide) ?_
  refine lv_bipush (v := 122) hx hb dX6_next_125 (by decide) ?_
  have hPc : va_P G.1 vwCl [] H := hP.sub [] rfl
  have hDc : va_D A [] := hD.sub [] (by decide) rfl
  have hFc := va_free (wc := []) hD hS hA [] rfl
  refine va_calli (va_runS (As := [.int 114, .int 97, .int 122]) (rest := []) ⟨hx, hb, hml, hown, hts⟩ (c_X6_in_z24 l G H.size) (va_cwS 3 hts gX6_next_X6_in rfl rfl rfl (by decide +kernel) ⟨Nat.le_of_ble_eq_true rfl, Nat.le_of_ble_eq_true rfl⟩) ⟨gPre_blind, fun U hU hW => gPre_of hU hW hK hPc hDc⟩ rfl rfl hl.1 rfl (lv_room (Nat.le_of_ble_eq_true rfl)) dX6_next_127 ⟨Nat.le_of_ble_eq_true rfl, Nat.le_of_ble_eq_true rfl⟩) hS (fun q _ h => hFc q h) hFc (fun r_17 u t H locs ht hvm w_18 hB hz1 hk1 hS => ?_)
  obtain ⟨hP1, hK1, hD1⟩ := hB
  rw [ht] at hP1
  have hP1 : va_P G.1 vwCl [] H := hP1
  have hD1 : va_D (va_A [] _) [] := hD1
  have w_18 : r_17 = 1 := w_18
  obtain ⟨hP, hD⟩ := va_join (wr := [(tp, .inl (G.2.1, 160, .inl (gPf tB 40))), (wo, .inl (G.2.1, 96, .inl (gPf tW 96))), (h0, .inr (6, [.int 0, .ref kd, .ref mo, .ref st, .int 0, .ref ro, .ref tp, .int 40, .ref cd, .ref sr, .int 0, .int 0, .int 0, .ref ir, .ref ih, .ref ss, .ref sq, .ref ce, .ref lw, .int 13, .int 13, .int 0, .int 0, .ref wo, .ref he, .int 1, .int 0, .int 1, .ref sk, .ref na, .ref kp, .int 0, .int 0, .int 0, .int 0, .ref gb, .ref go, .ref fa, .ref ga, .int 0, .int 0, .ref vo]))]) (w1 := []) hP hD [] [0, 1, 2] rfl rfl (by decide) (by decide) hk1 hFc hP1 hD1
  have hP : va_P G.1 vwCl [(tp, .inl (G.2.1, 160, .inl (gPf tB 40))), (wo, .inl (G.2.1, 96, .inl (gPf tW 96))), (h0, .inr (6, [.int 0, .ref kd, .ref mo, .ref st, .int 0, .ref ro, .ref tp, .int 40, .ref cd, .ref sr, .int 0, .int 0, .int 0, .ref ir, .ref ih, .ref ss, .ref sq, .ref ce, .ref lw, .int 13, .int 13, .int 0, .int 0, .ref wo, .ref he, .int 1, .int 0, .int 1, .ref sk, .ref na, .ref kp, .int 0, .int 0, .int 0, .int 0, .ref gb, .ref go, .ref fa, .ref ga, .int 0, .int 0, .ref vo]))] H := hP
  have hD : va_D A [(tp, .inl (G.2.1, 160, .inl (gPf tB 40))), (wo, .inl (G.2.1, 96, .inl (gPf tW 96))), (h0, .inr (6, [.int 0, .ref kd, .ref mo, .ref st, .int 0, .ref ro, .ref tp, .int 40, .ref cd, .ref sr, .int 0, .int 0, .int 0, .ref ir, .ref ih, .ref ss, .ref sq, .ref ce, .ref lw, .int 13, .int 13, .int 0, .int 0, .ref wo, .ref he, .int 1, .int 0, .int 1, .ref sk, .ref na, .ref kp, .int 0, .int 0, .int 0, .int 0, .ref gb, .ref go, .ref fa, .ref ga, .int 0, .int 0, .ref vo]))] := hD
  have w_18 : r_17 = 1 := w_18
  subst w_18
  refine lv_if_eq (tgt := 146) hx hb dX6_next_130 (by decide) (fun c_19 => ?_) (fun c_19 => ?_)
  · exact absurd c_19 (by decide)
  refine lv_aload_n hx hb dX6_next_133 rfl (lv_at hl 1 rfl) ?_
  refine lv_dup hx hb dX6_next_134 rfl ?_
  refine va_get (D := G.1) (ci := 6) (v := .int 13) (C := RX6) (T := TX6) (N := 42) hx hb hts hiX6 hown hK hP 2 rfl rfl 19 (by decide) kf111 (fun _ h9 => h9) rfl dX6_next_135 ?_
  refine lv_iconst (v := 1) hx hb dX6_next_138 (by decide) ?_
  refine lv_iadd hx hb dX6_next_139 ?_
  refine lv_topi (fun v_20 ev_20 => ?_)
  have ev_20 : v_20 = 14 := ev_20.trans (by decide)
  subst ev_20
  refine va_put (D := G.1) (ci := 6) (v := .int 14) (ty := .int) (C := RX6) (T := TX6) (N := 42) hx hb hts hiX6 tyX6 tyX6_ok nmX6 hown hK hP hD hS 2 rfl rfl 19 (by decide) kf111 (fun _ h9 => h9) rfl (by decide +kernel) rfl rfl (Nat.le_of_ble_eq_true rfl) dX6_next_140 (fun H locs hP hD hS => ?_)
  have hP : va_P G.1 vwCl [(tp, .inl (G.2.1, 160, .inl (gPf tB 40))), (wo, .inl (G.2.1, 96, .inl (gPf tW 96))), (h0, .inr (6, [.int 0, .ref kd, .ref mo, .ref st, .int 0, .ref ro, .ref tp, .int 40, .ref cd, .ref sr, .int 0, .int 0, .int 0, .ref ir, .ref ih, .ref ss, .ref sq, .ref ce, .ref lw, .int 14, .int 13, .int 0, .int 0, .ref wo, .ref he, .int 1, .int 0, .int 1, .ref sk, .ref na, .ref kp, .int 0, .int 0, .int 0, .int 0, .ref gb, .ref go, .ref fa, .ref ga, .int 0, .int 0, .ref vo]))] H := hP
  have hD : va_D A [(tp, .inl (G.2.1, 160, .inl (gPf tB 40))), (wo, .inl (G.2.1, 96, .inl (gPf tW 96))), (h0, .inr (6, [.int 0, .ref kd, .ref mo, .ref st, .int 0, .ref ro, .ref tp, .int 40, .ref cd, .ref sr, .int 0, .int 0, .int 0, .ref ir, .ref ih, .ref ss, .ref sq, .ref ce, .ref lw, .int 14, .int 13, .int 0, .int 0, .ref wo, .ref he, .int 1, .int 0, .int 1, .ref sk, .ref na, .ref kp, .int 0, .int 0, .int 0, .int 0, .ref gb, .ref go, .ref fa, .ref ga, .int 0, .int 0, .ref vo]))] := hD
  refine lv_goto (tgt := 103) hx hb dX6_next_143 (by decide) ?_
  refine lv_aload_n hx hb dX6_next_103 rfl (lv_at hl 1 rfl) ?_
  refine va_get (D := G.1) (ci := 6) (v := .int 14) (C := RX6) (T := TX6) (N := 42) hx hb hts hiX6 hown hK hP 2 rfl rfl 19 (by decide) kf111 (fun _ h9 => h9) rfl dX6_next_104 ?_
  refine lv_aload_n hx hb dX6_next_107 rfl (lv_at hl 1 rfl) ?_
  refine va_get (D := G.1) (ci := 6) (v := .int 40) (C := RX6) (T := TX6) (N := 42) hx hb hts hiX6 hown hK hP 2 rfl rfl 7 (by decide) kf80 (fun _ h9 => h9) rfl dX6_next_108 ?_
  refine lv_icmp_ge (tgt := 146) hx hb dX6_next_111 (by decide) (fun c_21 => ?_) (fun c_21 => ?_)
  · exact absurd c_21 (by decide)
  refine lv_aload_n hx hb dX6_next_114 rfl (lv_at hl 1 rfl) ?_
  refine va_get (D := G.1) (ci := 6) (v := .ref tp) (C := RX6) (T := TX6) (N := 42) hx hb hts hiX6 hown hK hP 2 rfl rfl 6 (by decide) kf22 (fun _ h9 => h9) rfl dX6_next_115 ?_
  refine lv_aload_n hx hb dX6_next_118 rfl (lv_at hl 1 rfl) ?_
  refine va_get (D := G.1) (ci := 6) (v := .int 14) (C := RX6) (T := TX6) (N := 42) hx hb hts hiX6 hown hK hP 2 rfl rfl 19 (by decide) kf111 (fun _ h9 => h9) rfl dX6_next_119 ?_
  refine va_iald (D := G.1) hx hb hK hP 0 0 rfl rfl (i := 14) (gIn (by decide)) dX6_next_122 ?_
  refine lv_topi (fun v_22 ev_22 => ?_)
  have ev_22 : v_22 = 111 := ev_22.trans (by decide)
  subst ev_22
  refine lv_bipush (v := 97) hx hb dX6_next_123 (by decide) ?_
  refine lv_bipush (v := 122) hx hb dX6_next_125 (by decide) ?_
  have hPc : va_P G.1 vwCl [] H := hP.sub [] rfl
  have hDc : va_D A [] := hD.sub [] (by decide) rfl
  have hFc := va_free (wc := []) hD hS hA [] rfl
  refine va_calli (va_runS (As := [.int 111, .int 97, .int 122]) (rest := []) ⟨hx, hb, hml, hown, hts⟩ (c_X6_in_z25 l G H.size) (va_cwS 3 hts gX6_next_X6_in rfl rfl rfl (by decide +kernel) ⟨Nat.le_of_ble_eq_true rfl, Nat.le_of_ble_eq_true rfl⟩) ⟨gPre_blind, fun U hU hW => gPre_of hU hW hK hPc hDc⟩ rfl rfl hl.1 rfl (lv_room (Nat.le_of_ble_eq_true rfl)) dX6_next_127 ⟨Nat.le_of_ble_eq_true rfl, Nat.le_of_ble_eq_true rfl⟩) hS (fun q _ h => hFc q h) hFc (fun r_23 u t H locs ht hvm w_24 hB hz1 hk1 hS => ?_)
  obtain ⟨hP1, hK1, hD1⟩ := hB
  rw [ht] at hP1
  have hP1 : va_P G.1 vwCl [] H := hP1
  have hD1 : va_D (va_A [] _) [] := hD1
  have w_24 : r_23 = 1 := w_24
  obtain ⟨hP, hD⟩ := va_join (wr := [(tp, .inl (G.2.1, 160, .inl (gPf tB 40))), (wo, .inl (G.2.1, 96, .inl (gPf tW 96))), (h0, .inr (6, [.int 0, .ref kd, .ref mo, .ref st, .int 0, .ref ro, .ref tp, .int 40, .ref cd, .ref sr, .int 0, .int 0, .int 0, .ref ir, .ref ih, .ref ss, .ref sq, .ref ce, .ref lw, .int 14, .int 13, .int 0, .int 0, .ref wo, .ref he, .int 1, .int 0, .int 1, .ref sk, .ref na, .ref kp, .int 0, .int 0, .int 0, .int 0, .ref gb, .ref go, .ref fa, .ref ga, .int 0, .int 0, .ref vo]))]) (w1 := []) hP hD [] [0, 1, 2] rfl rfl (by decide) (by decide) hk1 hFc hP1 hD1
  have hP : va_P G.1 vwCl [(tp, .inl (G.2.1, 160, .inl (gPf tB 40))), (wo, .inl (G.2.1, 96, .inl (gPf tW 96))), (h0, .inr (6, [.int 0, .ref kd, .ref mo, .ref st, .int 0, .ref ro, .ref tp, .int 40, .ref cd, .ref sr, .int 0, .int 0, .int 0, .ref ir, .ref ih, .ref ss, .ref sq, .ref ce, .ref lw, .int 14, .int 13, .int 0, .int 0, .ref wo, .ref he, .int 1, .int 0, .int 1, .ref sk, .ref na, .ref kp, .int 0, .int 0, .int 0, .int 0, .ref gb, .ref go, .ref fa, .ref ga, .int 0, .int 0, .ref vo]))] H := hP
  have hD : va_D A [(tp, .inl (G.2.1, 160, .inl (gPf tB 40))), (wo, .inl (G.2.1, 96, .inl (gPf tW 96))), (h0, .inr (6, [.int 0, .ref kd, .ref mo, .ref st, .int 0, .ref ro, .ref tp, .int 40, .ref cd, .ref sr, .int 0, .int 0, .int 0, .ref ir, .ref ih, .ref ss, .ref sq, .ref ce, .ref lw, .int 14, .int 13, .int 0, .int 0, .ref wo, .ref he, .int 1, .int 0, .int 1, .ref sk, .ref na, .ref kp, .int 0, .int 0, .int 0, .int 0, .ref gb, .ref go, .ref fa, .ref ga, .int 0, .int 0, .ref vo]))] := hD
  have w_24 : r_23 = 1 := w_24
  subst w_24
  refine lv_if_eq (tgt := 146) hx hb dX6_next_130 (by decide) (fun c_25 => ?_) (fun c_25 => ?_)
  · exact absurd c_25 (by decide)
  refine lv_aload_n hx hb dX6_next_133 rfl (lv_at hl 1 rfl) ?_
  refine lv_dup hx hb dX6_next_134 rfl ?_
  refine va_get (D := G.1) (ci := 6) (v := .int 14) (C := RX6) (T := TX6) (N := 42) hx hb hts hiX6 hown hK hP 2 rfl rfl 19 (by decide) kf111 (fun _ h9 => h9) rfl dX6_next_135 ?_
  refine lv_iconst (v := 1) hx hb dX6_next_138 (by decide) ?_
  refine lv_iadd hx hb dX6_next_139 ?_
  refine lv_topi (fun v_26 ev_26 => ?_)
  have ev_26 : v_26 = 15 := ev_26.trans (by decide)
  subst ev_26
  refine va_put (D := G.1) (ci := 6) (v := .int 15) (ty := .int) (C := RX6) (T := TX6) (N := 42) hx hb hts hiX6 tyX6 tyX6_ok nmX6 hown hK hP hD hS 2 rfl rfl 19 (by decide) kf111 (fun _ h9 => h9) rfl (by decide +kernel) rfl rfl (Nat.le_of_ble_eq_true rfl) dX6_next_140 (fun H locs hP hD hS => ?_)
  have hP : va_P G.1 vwCl [(tp, .inl (G.2.1, 160, .inl (gPf tB 40))), (wo, .inl (G.2.1, 96, .inl (gPf tW 96))), (h0, .inr (6, [.int 0, .ref kd, .ref mo, .ref st, .int 0, .ref ro, .ref tp, .int 40, .ref cd, .ref sr, .int 0, .int 0, .int 0, .ref ir, .ref ih, .ref ss, .ref sq, .ref ce, .ref lw, .int 15, .int 13, .int 0, .int 0, .ref wo, .ref he, .int 1, .int 0, .int 1, .ref sk, .ref na, .ref kp, .int 0, .int 0, .int 0, .int 0, .ref gb, .ref go, .ref fa, .ref ga, .int 0, .int 0, .ref vo]))] H := hP
  have hD : va_D A [(tp, .inl (G.2.1, 160, .inl (gPf tB 40))), (wo, .inl (G.2.1, 96, .inl (gPf tW 96))), (h0, .inr (6, [.int 0, .ref kd, .ref mo, .ref st, .int 0, .ref ro, .ref tp, .int 40, .ref cd, .ref sr, .int 0, .int 0, .int 0, .ref ir, .ref ih, .ref ss, .ref sq, .ref ce, .ref lw, .int 15, .int 13, .int 0, .int 0, .ref wo, .ref he, .int 1, .int 0, .int 1, .ref sk, .ref na, .ref kp, .int 0, .int 0, .int 0, .int 0, .ref gb, .ref go, .ref fa, .ref ga, .int 0, .int 0, .ref vo]))] := hD
  refine lv_goto (tgt := 103) hx hb dX6_next_143 (by decide) ?_
  refine lv_aload_n hx hb dX6_next_103 rfl (lv_at hl 1 rfl) ?_
  refine va_get (D := G.1) (ci := 6) (v := .int 15) (C := RX6) (T := TX6) (N := 42) hx hb hts hiX6 hown hK hP 2 rfl rfl 19 (by decide) kf111 (fun _ h9 => h9) rfl dX6_next_104 ?_
  refine lv_aload_n hx hb dX6_next_107 rfl (lv_at hl 1 rfl) ?_
  refine va_get (D := G.1) (ci := 6) (v := .int 40) (C := RX6) (T := TX6) (N := 42) hx hb hts hiX6 hown hK hP 2 rfl rfl 7 (by decide) kf80 (fun _ h9 => h9) rfl dX6_next_108 ?_
  refine lv_icmp_ge (tgt := 146) hx hb dX6_next_111 (by decide) (fun c_27 => ?_) (fun c_27 => ?_)
  · exact absurd c_27 (by decide)
  refine lv_aload_n hx hb dX6_next_114 rfl (lv_at hl 1 rfl) ?_
  refine va_get (D := G.1) (ci := 6) (v := .ref tp) (C := RX6) (T := TX6) (N := 42) hx hb hts hiX6 hown hK hP 2 rfl rfl 6 (by decide) kf22 (fun _ h9 => h9) rfl dX6_next_115 ?_
  refine lv_aload_n hx hb dX6_next_118 rfl (lv_at hl 1 rfl) ?_
  refine va_get (D := G.1) (ci := 6) (v := .int 15) (C := RX6) (T := TX6) (N := 42) hx hb hts hiX6 hown hK hP 2 rfl rfl 19 (by decide) kf111 (fun _ h9 => h9) rfl dX6_next_119 ?_
  refine va_iald (D := G.1) hx hb hK hP 0 0 rfl rfl (i := 15) (gIn (by decide)) dX6_next_122 ?_
  refine lv_topi (fun v_28 ev_28 => ?_)
  have ev_28 : v_28 = 117 := ev_28.trans (by decide)
  subst ev_28
  refine lv_bipush (v := 97) hx hb dX6_next_123 (by decide) ?_
  refine lv_bipush (v := 122) hx hb dX6_next_125 (by decide) ?_
  have hPc : va_P G.1 vwCl [] H := hP.sub [] rfl
  have hDc : va_D A [] := hD.sub [] (by decide) rfl
  have hFc := va_free (wc := []) hD hS hA [] rfl
  refine va_calli (va_runS (As := [.int 117, .int 97, .int 122]) (rest := []) ⟨hx, hb, hml, hown, hts⟩ (c_X6_in_z26 l G H.size) (va_cwS 3 hts gX6_next_X6_in rfl rfl rfl (by decide +kernel) ⟨Nat.le_of_ble_eq_true rfl, Nat.le_of_ble_eq_true rfl⟩) ⟨gPre_blind, fun U hU hW => gPre_of hU hW hK hPc hDc⟩ rfl rfl hl.1 rfl (lv_room (Nat.le_of_ble_eq_true rfl)) dX6_next_127 ⟨Nat.le_of_ble_eq_true rfl, Nat.le_of_ble_eq_true rfl⟩) hS (fun q _ h => hFc q h) hFc (fun r_29 u t H locs ht hvm w_30 hB hz1 hk1 hS => ?_)
  obtain ⟨hP1, hK1, hD1⟩ := hB
  rw [ht] at hP1
  have hP1 : va_P G.1 vwCl [] H := hP1
  have hD1 : va_D (va_A [] _) [] := hD1
  have w_30 : r_29 = 1 := w_30
  obtain ⟨hP, hD⟩ := va_join (wr := [(tp, .inl (G.2.1, 160, .inl (gPf tB 40))), (wo, .inl (G.2.1, 96, .inl (gPf tW 96))), (h0, .inr (6, [.int 0, .ref kd, .ref mo, .ref st, .int 0, .ref ro, .ref tp, .int 40, .ref cd, .ref sr, .int 0, .int 0, .int 0, .ref ir, .ref ih, .ref ss, .ref sq, .ref ce, .ref lw, .int 15, .int 13, .int 0, .int 0, .ref wo, .ref he, .int 1, .int 0, .int 1, .ref sk, .ref na, .ref kp, .int 0, .int 0, .int 0, .int 0, .ref gb, .ref go, .ref fa, .ref ga, .int 0, .int 0, .ref vo]))]) (w1 := []) hP hD [] [0, 1, 2] rfl rfl (by decide) (by decide) hk1 hFc hP1 hD1
  have hP : va_P G.1 vwCl [(tp, .inl (G.2.1, 160, .inl (gPf tB 40))), (wo, .inl (G.2.1, 96, .inl (gPf tW 96))), (h0, .inr (6, [.int 0, .ref kd, .ref mo, .ref st, .int 0, .ref ro, .ref tp, .int 40, .ref cd, .ref sr, .int 0, .int 0, .int 0, .ref ir, .ref ih, .ref ss, .ref sq, .ref ce, .ref lw, .int 15, .int 13, .int 0, .int 0, .ref wo, .ref he, .int 1, .int 0, .int 1, .ref sk, .ref na, .ref kp, .int 0, .int 0, .int 0, .int 0, .ref gb, .ref go, .ref fa, .ref ga, .int 0, .int 0, .ref vo]))] H := hP
  have hD : va_D A [(tp, .inl (G.2.1, 160, .inl (gPf tB 40))), (wo, .inl (G.2.1, 96, .inl (gPf tW 96))), (h0, .inr (6, [.int 0, .ref kd, .ref mo, .ref st, .int 0, .ref ro, .ref tp, .int 40, .ref cd, .ref sr, .int 0, .int 0, .int 0, .ref ir, .ref ih, .ref ss, .ref sq, .ref ce, .ref lw, .int 15, .int 13, .int 0, .int 0, .ref wo, .ref he, .int 1, .int 0, .int 1, .ref sk, .ref na, .ref kp, .int 0, .int 0, .int 0, .int 0, .ref gb, .ref go, .ref fa, .ref ga, .int 0, .int 0, .ref vo]))] := hD
  have w_30 : r_29 = 1 := w_30
  subst w_30
  refine lv_if_eq (tgt := 146) hx hb dX6_next_130 (by decide) (fun c_31 => ?_) (fun c_31 => ?_)
  · exact absurd c_31 (by decide)
  refine lv_aload_n hx hb dX6_next_133 rfl (lv_at hl 1 rfl) ?_
  refine lv_dup hx hb dX6_next_134 rfl ?_
  refine va_get (D := G.1) (ci := 6) (v := .int 15) (C := RX6) (T := TX6) (N := 42) hx hb hts hiX6 hown hK hP 2 rfl rfl 19 (by decide) kf111 (fun _ h9 => h9) rfl dX6_next_135 ?_
  refine lv_iconst (v := 1) hx hb dX6_next_138 (by decide) ?_
  refine lv_iadd hx hb dX6_next_139 ?_
  refine lv_topi (fun v_32 ev_32 => ?_)
  have ev_32 : v_32 = 16 := ev_32.trans (by decide)
  subst ev_32
  refine va_put (D := G.1) (ci := 6) (v := .int 16) (ty := .int) (C := RX6) (T := TX6) (N := 42) hx hb hts hiX6 tyX6 tyX6_ok nmX6 hown hK hP hD hS 2 rfl rfl 19 (by decide) kf111 (fun _ h9 => h9) rfl (by decide +kernel) rfl rfl (Nat.le_of_ble_eq_true rfl) dX6_next_140 (fun H locs hP hD hS => ?_)
  have hP : va_P G.1 vwCl [(tp, .inl (G.2.1, 160, .inl (gPf tB 40))), (wo, .inl (G.2.1, 96, .inl (gPf tW 96))), (h0, .inr (6, [.int 0, .ref kd, .ref mo, .ref st, .int 0, .ref ro, .ref tp, .int 40, .ref cd, .ref sr, .int 0, .int 0, .int 0, .ref ir, .ref ih, .ref ss, .ref sq, .ref ce, .ref lw, .int 16, .int 13, .int 0, .int 0, .ref wo, .ref he, .int 1, .int 0, .int 1, .ref sk, .ref na, .ref kp, .int 0, .int 0, .int 0, .int 0, .ref gb, .ref go, .ref fa, .ref ga, .int 0, .int 0, .ref vo]))] H := hP
  have hD : va_D A [(tp, .inl (G.2.1, 160, .inl (gPf tB 40))), (wo, .inl (G.2.1, 96, .inl (gPf tW 96))), (h0, .inr (6, [.int 0, .ref kd, .ref mo, .ref st, .int 0, .ref ro, .ref tp, .int 40, .ref cd, .ref sr, .int 0, .int 0, .int 0, .ref ir, .ref ih, .ref ss, .ref sq, .ref ce, .ref lw, .int 16, .int 13, .int 0, .int 0, .ref wo, .ref he, .int 1, .int 0, .int 1, .ref sk, .ref na, .ref kp, .int 0, .int 0, .int 0, .int 0, .ref gb, .ref go, .ref fa, .ref ga, .int 0, .int 0, .ref vo]))] := hD
  refine lv_goto (tgt := 103) hx hb dX6_next_143 (by decide) ?_
  refine lv_aload_n hx hb dX6_next_103 rfl (lv_at hl 1 rfl) ?_
  refine va_get (D := G.1) (ci := 6) (v := .int 16) (C := RX6) (T := TX6) (N := 42) hx hb hts hiX6 hown hK hP 2 rfl rfl 19 (by decide) kf111 (fun _ h9 => h9) rfl dX6_next_104 ?_
  refine lv_aload_n hx hb dX6_next_107 rfl (lv_at hl 1 rfl) ?_
  refine va_get (D := G.1) (ci := 6) (v := .int 40) (C := RX6) (T := TX6) (N := 42) hx hb hts hiX6 hown hK hP 2 rfl rfl 7 (by decide) kf80 (fun _ h9 => h9) rfl dX6_next_108 ?_
  refine lv_icmp_ge (tgt := 146) hx hb dX6_next_111 (by decide) (fun c_33 => ?_) (fun c_33 => ?_)
  · exact absurd c_33 (by decide)
  refine lv_aload_n hx hb dX6_next_114 rfl (lv_at hl 1 rfl) ?_
  refine va_get (D := G.1) (ci := 6) (v := .ref tp) (C := RX6) (T := TX6) (N := 42) hx hb hts hiX6 hown hK hP 2 rfl rfl 6 (by decide) kf22 (fun _ h9 => h9) rfl dX6_next_115 ?_
  refine lv_aload_n hx hb dX6_next_118 rfl (lv_at hl 1 rfl) ?_
  refine va_get (D := G.1) (ci := 6) (v := .int 16) (C := RX6) (T := TX6) (N := 42) hx hb hts hiX6 hown hK hP 2 rfl rfl 19 (by decide) kf111 (fun _ h9 => h9) rfl dX6_next_119 ?_
  refine va_iald (D := G.1) hx hb hK hP 0 0 rfl rfl (i := 16) (gIn (by decide)) dX6_next_122 ?_
  refine lv_topi (fun v_34 ev_34 => ?_)
  have ev_34 : v_34 = 110 := ev_34.trans (by decide)
  subst ev_34
  refine lv_bipush (v := 97) hx hb dX6_next_123 (by decide) ?_
  refine lv_bipush (v := 122) hx hb dX6_next_125 (by decide) ?_
  have hPc : va_P G.1 vwCl [] H := hP.sub [] rfl
  have hDc : va_D A [] := hD.sub [] (by decide) rfl
  have hFc := va_free (wc := []) hD hS hA [] rfl
  refine va_calli (va_runS (As := [.int 110, .int 97, .int 122]) (rest := []) ⟨hx, hb, hml, hown, hts⟩ (c_X6_in_z27 l G H.size) (va_cwS 3 hts gX6_next_X6_in rfl rfl rfl (by decide +kernel) ⟨Nat.le_of_ble_eq_true rfl, Nat.le_of_ble_eq_true rfl⟩) ⟨gPre_blind, fun U hU hW => gPre_of hU hW hK hPc hDc⟩ rfl rfl hl.1 rfl (lv_room (Nat.le_of_ble_eq_true rfl)) dX6_next_127 ⟨Nat.le_of_ble_eq_true rfl, Nat.le_of_ble_eq_true rfl⟩) hS (fun q _ h => hFc q h) hFc (fun r_35 u t H locs ht hvm w_36 hB hz1 hk1 hS => ?_)
  obtain ⟨hP1, hK1, hD1⟩ := hB
  rw [ht] at hP1
  have hP1 : va_P G.1 vwCl [] H := hP1
  have hD1 : va_D (va_A [] _) [] := hD1
  have w_36 : r_35 = 1 := w_36
  obtain ⟨hP, hD⟩ := va_join (wr := [(tp, .inl (G.2.1, 160, .inl (gPf tB 40))), (wo, .inl (G.2.1, 96, .inl (gPf tW 96))), (h0, .inr (6, [.int 0, .ref kd, .ref mo, .ref st, .int 0, .ref ro, .ref tp, .int 40, .ref cd, .ref sr, .int 0, .int 0, .int 0, .ref ir, .ref ih, .ref ss, .ref sq, .ref ce, .ref lw, .int 16, .int 13, .int 0, .int 0, .ref wo, .ref he, .int 1, .int 0, .int 1, .ref sk, .ref na, .ref kp, .int 0, .int 0, .int 0, .int 0, .ref gb, .ref go, .ref fa, .ref ga, .int 0, .int 0, .ref vo]))]) (w1 := []) hP hD [] [0, 1, 2] rfl rfl (by decide) (by decide) hk1 hFc hP1 hD1
  have hP : va_P G.1 vwCl [(tp, .inl (G.2.1, 160, .inl (gPf tB 40))), (wo, .inl (G.2.1, 96, .inl (gPf tW 96))), (h0, .inr (6, [.int 0, .ref kd, .ref mo, .ref st, .int 0, .ref ro, .ref tp, .int 40, .ref cd, .ref sr, .int 0, .int 0, .int 0, .ref ir, .ref ih, .ref ss, .ref sq, .ref ce, .ref lw, .int 16, .int 13, .int 0, .int 0, .ref wo, .ref he, .int 1, .int 0, .int 1, .ref sk, .ref na, .ref kp, .int 0, .int 0, .int 0, .int 0, .ref gb, .ref go, .ref fa, .ref ga, .int 0, .int 0, .ref vo]))] H := hP
  have hD : va_D A [(tp, .inl (G.2.1, 160, .inl (gPf tB 40))), (wo, .inl (G.2.1, 96, .inl (gPf tW 96))), (h0, .inr (6, [.int 0, .ref kd, .ref mo, .ref st, .int 0, .ref ro, .ref tp, .int 40, .ref cd, .ref sr, .int 0, .int 0, .int 0, .ref ir, .ref ih, .ref ss, .ref sq, .ref ce, .ref lw, .int 16, .int 13, .int 0, .int 0, .ref wo, .ref he, .int 1, .int 0, .int 1, .ref sk, .ref na, .ref kp, .int 0, .int 0, .int 0, .int 0, .ref gb, .ref go, .ref fa, .ref ga, .int 0, .int 0, .ref vo]))] := hD
  have w_36 : r_35 = 1 := w_36
  subst w_36
  refine lv_if_eq (tgt := 146) hx hb dX6_next_130 (by decide) (fun c_37 => ?_) (fun c_37 => ?_)
  · exact absurd c_37 (by decide)
  refine lv_aload_n hx hb dX6_next_133 rfl (lv_at hl 1 rfl) ?_
  refine lv_dup hx hb dX6_next_134 rfl ?_
  refine va_get (D := G.1) (ci := 6) (v := .int 16) (C := RX6) (T := TX6) (N := 42) hx hb hts hiX6 hown hK hP 2 rfl rfl 19 (by decide) kf111 (fun _ h9 => h9) rfl dX6_next_135 ?_
  refine lv_iconst (v := 1) hx hb dX6_next_138 (by decide) ?_
  refine lv_iadd hx hb dX6_next_139 ?_
  refine lv_topi (fun v_38 ev_38 => ?_)
  have ev_38 : v_38 = 17 := ev_38.trans (by decide)
  subst ev_38
  refine va_put (D := G.1) (ci := 6) (v := .int 17) (ty := .int) (C := RX6) (T := TX6) (N := 42) hx hb hts hiX6 tyX6 tyX6_ok nmX6 hown hK hP hD hS 2 rfl rfl 19 (by decide) kf111 (fun _ h9 => h9) rfl (by decide +kernel) rfl rfl (Nat.le_of_ble_eq_true rfl) dX6_next_140 (fun H locs hP hD hS => ?_)
  have hP : va_P G.1 vwCl [(tp, .inl (G.2.1, 160, .inl (gPf tB 40))), (wo, .inl (G.2.1, 96, .inl (gPf tW 96))), (h0, .inr (6, [.int 0, .ref kd, .ref mo, .ref st, .int 0, .ref ro, .ref tp, .int 40, .ref cd, .ref sr, .int 0, .int 0, .int 0, .ref ir, .ref ih, .ref ss, .ref sq, .ref ce, .ref lw, .int 17, .int 13, .int 0, .int 0, .ref wo, .ref he, .int 1, .int 0, .int 1, .ref sk, .ref na, .ref kp, .int 0, .int 0, .int 0, .int 0, .ref gb, .ref go, .ref fa, .ref ga, .int 0, .int 0, .ref vo]))] H := hP
  have hD : va_D A [(tp, .inl (G.2.1, 160, .inl (gPf tB 40))), (wo, .inl (G.2.1, 96, .inl (gPf tW 96))), (h0, .inr (6, [.int 0, .ref kd, .ref mo, .ref st, .int 0, .ref ro, .ref tp, .int 40, .ref cd, .ref sr, .int 0, .int 0, .int 0, .ref ir, .ref ih, .ref ss, .ref sq, .ref ce, .ref lw, .int 17, .int 13, .int 0, .int 0, .ref wo, .ref he, .int 1, .int 0, .int 1, .ref sk, .ref na, .ref kp, .int 0, .int 0, .int 0, .int 0, .ref gb, .ref go, .ref fa, .ref ga, .int 0, .int 0, .ref vo]))] := hD
  refine lv_goto (tgt := 103) hx hb dX6_next_143 (by decide) ?_
  refine lv_aload_n hx hb dX6_next_103 rfl (lv_at hl 1 rfl) ?_
  refine va_get (D := G.1) (ci := 6) (v := .int 17) (C := RX6) (T := TX6) (N := 42) hx hb hts hiX6 hown hK hP 2 rfl rfl 19 (by decide) kf111 (fun _ h9 => h9) rfl dX6_next_104 ?_
  refine lv_aload_n hx hb dX6_next_107 rfl (lv_at hl 1 rfl) ?_
  refine va_get (D := G.1) (ci := 6) (v := .int 40) (C := RX6) (T := TX6) (N := 42) hx hb hts hiX6 hown hK hP 2 rfl rfl 7 (by decide) kf80 (fun _ h9 => h9) rfl dX6_next_108 ?_
  refine lv_icmp_ge (tgt := 146) hx hb dX6_next_111 (by decide) (fun c_39 => ?_) (fun c_39 => ?_)
  · exact absurd c_39 (by decide)
  refine lv_aload_n hx hb dX6_next_114 rfl (lv_at hl 1 rfl) ?_
  refine va_get (D := G.1) (ci := 6) (v := .ref tp) (C := RX6) (T := TX6) (N := 42) hx hb hts hiX6 hown hK hP 2 rfl rfl 6 (by decide) kf22 (fun _ h9 => h9) rfl dX6_next_115 ?_
  refine lv_aload_n hx hb dX6_next_118 rfl (lv_at hl 1 rfl) ?_
  refine va_get (D := G.1) (ci := 6) (v := .int 17) (C := RX6) (T := TX6) (N := 42) hx hb hts hiX6 hown hK hP 2 rfl rfl 19 (by decide) kf111 (fun _ h9 => h9) rfl dX6_next_119 ?_
  refine va_iald (D := G.1) hx hb hK hP 0 0 rfl rfl (i := 17) (gIn (by decide)) dX6_next_122 ?_
  refine lv_topi (fun v_40 ev_40 => ?_)
  have ev_40 : v_40 = 100 := ev_40.trans (by decide)
  subst ev_40
  refine lv_bipush (v := 97) hx hb dX6_next_123 (by decide) ?_
  refine lv_bipush (v := 122) hx hb dX6_next_125 (by decide) ?_
  have hPc : va_P G.1 vwCl [] H := hP.sub [] rfl
  have hDc : va_D A [] := hD.sub [] (by decide) rfl
  have hFc := va_free (wc := []) hD hS hA [] rfl
  refine va_calli (va_runS (As := [.int 100, .int 97, .int 122]) (rest := []) ⟨hx, hb, hml, hown, hts⟩ (c_X6_in_z28 l G H.size) (va_cwS 3 hts gX6_next_X6_in rfl rfl rfl (by decide +kernel) ⟨Nat.le_of_ble_eq_true rfl, Nat.le_of_ble_eq_true rfl⟩) ⟨gPre_blind, fun U hU hW => gPre_of hU hW hK hPc hDc⟩ rfl rfl hl.1 rfl (lv_room (Nat.le_of_ble_eq_true rfl)) dX6_next_127 ⟨Nat.le_of_ble_eq_true rfl, Nat.le_of_ble_eq_true rfl⟩) hS (fun q _ h => hFc q h) hFc (fun r_41 u t H locs ht hvm w_42 hB hz1 hk1 hS => ?_)
  obtain ⟨hP1, hK1, hD1⟩ := hB
  rw [ht] at hP1
  have hP1 : va_P G.1 vwCl [] H := hP1
  have hD1 : va_D (va_A [] _) [] := hD1
  have w_42 : r_41 = 1 := w_42
  obtain ⟨hP, hD⟩ := va_join (wr := [(tp, .inl (G.2.1, 160, .inl (gPf tB 40))), (wo, .inl (G.2.1, 96, .inl (gPf tW 96))), (h0, .inr (6, [.int 0, .ref kd, .ref mo, .ref st, .int 0, .ref ro, .ref tp, .int 40, .ref cd, .ref sr, .int 0, .int 0, .int 0, .ref ir, .ref ih, .ref ss, .ref sq, .ref ce, .ref lw, .int 17, .int 13, .int 0, .int 0, .ref wo, .ref he, .int 1, .int 0, .int 1, .ref sk, .ref na, .ref kp, .int 0, .int 0, .int 0, .int 0, .ref gb, .ref go, .ref fa, .ref ga, .int 0, .int 0, .ref vo]))]) (w1 := []) hP hD [] [0, 1, 2] rfl rfl (by decide) (by decide) hk1 hFc hP1 hD1
  have hP : va_P G.1 vwCl [(tp, .inl (G.2.1, 160, .inl (gPf tB 40))), (wo, .inl (G.2.1, 96, .inl (gPf tW 96))), (h0, .inr (6, [.int 0, .ref kd, .ref mo, .ref st, .int 0, .ref ro, .ref tp, .int 40, .ref cd, .ref sr, .int 0, .int 0, .int 0, .ref ir, .ref ih, .ref ss, .ref sq, .ref ce, .ref lw, .int 17, .int 13, .int 0, .int 0, .ref wo, .ref he, .int 1, .int 0, .int 1, .ref sk, .ref na, .ref kp, .int 0, .int 0, .int 0, .int 0, .ref gb, .ref go, .ref fa, .ref ga, .int 0, .int 0, .ref vo]))] H := hP
  have hD : va_D A [(tp, .inl (G.2.1, 160, .inl (gPf tB 40))), (wo, .inl (G.2.1, 96, .inl (gPf tW 96))), (h0, .inr (6, [.int 0, .ref kd, .ref mo, .ref st, .int 0, .ref ro, .ref tp, .int 40, .ref cd, .ref sr, .int 0, .int 0, .int 0, .ref ir, .ref ih, .ref ss, .ref sq, .ref ce, .ref lw, .int 17, .int 13, .int 0, .int 0, .ref wo, .ref he, .int 1, .int 0, .int 1, .ref sk, .ref na, .ref kp, .int 0, .int 0, .int 0, .int 0, .ref gb, .ref go, .ref fa, .ref ga, .int 0, .int 0, .ref vo]))] := hD
  have w_42 : r_41 = 1 := w_42
  subst w_42
  refine lv_if_eq (tgt := 146) hx hb dX6_next_130 (by decide) (fun c_43 => ?_) (fun c_43 => ?_)
  · exact absurd c_43 (by decide)
  refine lv_aload_n hx hb dX6_next_133 rfl (lv_at hl 1 rfl) ?_
  refine lv_dup hx hb dX6_next_134 rfl ?_
  refine va_get (D := G.1) (ci := 6) (v := .int 17) (C := RX6) (T := TX6) (N := 42) hx hb hts hiX6 hown hK hP 2 rfl rfl 19 (by decide) kf111 (fun _ h9 => h9) rfl dX6_next_135 ?_
  refine lv_iconst (v := 1) hx hb dX6_next_138 (by decide) ?_
  refine lv_iadd hx hb dX6_next_139 ?_
  refine lv_topi (fun v_44 ev_44 => ?_)
  have ev_44 : v_44 = 18 := ev_44.trans (by decide)
  subst ev_44
  refine va_put (D := G.1) (ci := 6) (v := .int 18) (ty := .int) (C := RX6) (T := TX6) (N := 42) hx hb hts hiX6 tyX6 tyX6_ok nmX6 hown hK hP hD hS 2 rfl rfl 19 (by decide) kf111 (fun _ h9 => h9) rfl (by decide +kernel) rfl rfl (Nat.le_of_ble_eq_true rfl) dX6_next_140 (fun H locs hP hD hS => ?_)
  have hP : va_P G.1 vwCl [(tp, .inl (G.2.1, 160, .inl (gPf tB 40))), (wo, .inl (G.2.1, 96, .inl (gPf tW 96))), (h0, .inr (6, [.int 0, .ref kd, .ref mo, .ref st, .int 0, .ref ro, .ref tp, .int 40, .ref cd, .ref sr, .int 0, .int 0, .int 0, .ref ir, .ref ih, .ref ss, .ref sq, .ref ce, .ref lw, .int 18, .int 13, .int 0, .int 0, .ref wo, .ref he, .int 1, .int 0, .int 1, .ref sk, .ref na, .ref kp, .int 0, .int 0, .int 0, .int 0, .ref gb, .ref go, .ref fa, .ref ga, .int 0, .int 0, .ref vo]))] H := hP
  have hD : va_D A [(tp, .inl (G.2.1, 160, .inl (gPf tB 40))), (wo, .inl (G.2.1, 96, .inl (gPf tW 96))), (h0, .inr (6, [.int 0, .ref kd, .ref mo, .ref st, .int 0, .ref ro, .ref tp, .int 40, .ref cd, .ref sr, .int 0, .int 0, .int 0, .ref ir, .ref ih, .ref ss, .ref sq, .ref ce, .ref lw, .int 18, .int 13, .int 0, .int 0, .ref wo, .ref he, .int 1, .int 0, .int 1, .ref sk, .ref na, .ref kp, .int 0, .int 0, .int 0, .int 0, .ref gb, .ref go, .ref fa, .ref ga, .int 0, .int 0, .ref vo]))] := hD
  refine lv_goto (tgt := 103) hx hb dX6_next_143 (by decide) ?_
  refine lv_aload_n hx hb dX6_next_103 rfl (lv_at hl 1 rfl) ?_
  refine va_get (D := G.1) (ci := 6) (v := .int 18) (C := RX6) (T := TX6) (N := 42) hx hb hts hiX6 hown hK hP 2 rfl rfl 19 (by decide) kf111 (fun _ h9 => h9) rfl dX6_next_104 ?_
  refine lv_aload_n hx hb dX6_next_107 rfl (lv_at hl 1 rfl) ?_
  refine va_get (D := G.1) (ci := 6) (v := .int 40) (C := RX6) (T := TX6) (N := 42) hx hb hts hiX6 hown hK hP 2 rfl rfl 7 (by decide) kf80 (fun _ h9 => h9) rfl dX6_next_108 ?_
  refine lv_icmp_ge (tgt := 146) hx hb dX6_next_111 (by decide) (fun c_45 => ?_) (fun c_45 => ?_)
  · exact absurd c_45 (by decide)
  refine lv_aload_n hx hb dX6_next_114 rfl (lv_at hl 1 rfl) ?_
  refine va_get (D := G.1) (ci := 6) (v := .ref tp) (C := RX6) (T := TX6) (N := 42) hx hb hts hiX6 hown hK hP 2 rfl rfl 6 (by decide) kf22 (fun _ h9 => h9) rfl dX6_next_115 ?_
  refine lv_aload_n hx hb dX6_next_118 rfl (lv_at hl 1 rfl) ?_
  refine va_get (D := G.1) (ci := 6) (v := .int 18) (C := RX6) (T := TX6) (N := 42) hx hb hts hiX6 hown hK hP 2 rfl rfl 19 (by decide) kf111 (fun _ h9 => h9) rfl dX6_next_119 ?_
  refine va_iald (D := G.1) hx hb hK hP 0 0 rfl rfl (i := 18) (gIn (by decide)) dX6_next_122 ?_
  refine lv_topi (fun v_46 ev_46 => ?_)
  have ev_46 : v_46 = 32 := ev_46.trans (by decide)
  subst ev_46
  refine lv_bipush (v := 97) hx hb dX6_next_123 (by decide) ?_
  refine lv_bipush (v := 122) hx hb dX6_next_125 (by decide) ?_
  have hPc : va_P G.1 vwCl [] H := hP.sub [] rfl
  have hDc : va_D A [] := hD.sub [] (by decide) rfl
  have hFc := va_free (wc := []) hD hS hA [] rfl
  refine va_calli (va_runS (As := [.int 32, .int 97, .int 122]) (rest := []) ⟨hx, hb, hml, hown, hts⟩ (c_X6_in_z6 l G H.size) (va_cwS 3 hts gX6_next_X6_in rfl rfl rfl (by decide +kernel) ⟨Nat.le_of_ble_eq_true rfl, Nat.le_of_ble_eq_true rfl⟩) ⟨gPre_blind, fun U hU hW => gPre_of hU hW hK hPc hDc⟩ rfl rfl hl.1 rfl (lv_room (Nat.le_of_ble_eq_true rfl)) dX6_next_127 ⟨Nat.le_of_ble_eq_true rfl, Nat.le_of_ble_eq_true rfl⟩) hS (fun q _ h => hFc q h) hFc (fun r_47 u t H locs ht hvm w_48 hB hz1 hk1 hS => ?_)
  obtain ⟨hP1, hK1, hD1⟩ := hB
  rw [ht] at hP1
  have hP1 : va_P G.1 vwCl [] H := hP1
  have hD1 : va_D (va_A [] _) [] := hD1
  have w_48 : r_47 = 0 := w_48
  obtain ⟨hP, hD⟩ := va_join (wr := [(tp, .inl (G.2.1, 160, .inl (gPf tB 40))), (wo, .inl (G.2.1, 96, .inl (gPf tW 96))), (h0, .inr (6, [.int 0, .ref kd, .ref mo, .ref st, .int 0, .ref ro, .ref tp, .int 40, .ref cd, .ref sr, .int 0, .int 0, .int 0, .ref ir, .ref ih, .ref ss, .ref sq, .ref ce, .ref lw, .int 18, .int 13, .int 0, .int 0, .ref wo, .ref he, .int 1, .int 0, .int 1, .ref sk, .ref na, .ref kp, .int 0, .int 0, .int 0, .int 0, .ref gb, .ref go, .ref fa, .ref ga, .int 0, .int 0, .ref vo]))]) (w1 := []) hP hD [] [0, 1, 2] rfl rfl (by decide) (by decide) hk1 hFc hP1 hD1
  have hP : va_P G.1 vwCl [(tp, .inl (G.2.1, 160, .inl (gPf tB 40))), (wo, .inl (G.2.1, 96, .inl (gPf tW 96))), (h0, .inr (6, [.int 0, .ref kd, .ref mo, .ref st, .int 0, .ref ro, .ref tp, .int 40, .ref cd, .ref sr, .int 0, .int 0, .int 0, .ref ir, .ref ih, .ref ss, .ref sq, .ref ce, .ref lw, .int 18, .int 13, .int 0, .int 0, .ref wo, .ref he, .int 1, .int 0, .int 1, .ref sk, .ref na, .ref kp, .int 0, .int 0, .int 0, .int 0, .ref gb, .ref go, .ref fa, .ref ga, .int 0, .int 0, .ref vo]))] H := hP
  have hD : va_D A [(tp, .inl (G.2.1, 160, .inl (gPf tB 40))), (wo, .inl (G.2.1, 96, .inl (gPf tW 96))), (h0, .inr (6, [.int 0, .ref kd, .ref mo, .ref st, .int 0, .ref ro, .ref tp, .int 40, .ref cd, .ref sr, .int 0, .int 0, .int 0, .ref ir, .ref ih, .ref ss, .ref sq, .ref ce, .ref lw, .int 18, .int 13, .int 0, .int 0, .ref wo, .ref he, .int 1, .int 0, .int 1, .ref sk, .ref na, .ref kp, .int 0, .int 0, .int 0, .int 0, .ref gb, .ref go, .ref fa, .ref ga, .int 0, .int 0, .ref vo]))] := hD
  have w_48 : r_47 = 0 := w_48
  subst w_48
  refine lv_if_eq (tgt := 146) hx hb dX6_next_130 (by decide) (fun c_49 => ?_) (fun c_49 => ?_)
  rotate_left
  · exact absurd (by decide) c_49
  refine lv_aload_n hx hb dX6_next_146 rfl (lv_at hl 1 rfl) ?_
  refine lv_aload_n hx hb dX6_next_147 rfl (lv_at hl 1 rfl) ?_
  refine va_get (D := G.1) (ci := 6) (v := .int 13) (C := RX6) (T := TX6) (N := 42) hx hb hts hiX6 hown hK hP 2 rfl rfl 20 (by decide) kf114 (fun _ h9 => h9) rfl dX6_next_148 ?_
  refine lv_aload_n hx hb dX6_next_151 rfl (lv_at hl 1 rfl) ?_
  refine va_get (D := G.1) (ci := 6) (v := .int 18) (C := RX6) (T := TX6) (N := 42) hx hb hts hiX6 hown hK hP 2 rfl rfl 19 (by decide) kf111 (fun _ h9 => h9) rfl dX6_next_152 ?_
  have hPc : va_P G.1 vwCl [(tp, .inl (G.2.1, 160, .inl (gPf tB 40))), (wo, .inl (G.2.1, 96, .inl (gPf tW 96))), (h0, .inr (6, [.int 0, .ref kd, .ref mo, .ref st, .int 0, .ref ro, .ref tp, .int 40, .ref cd, .ref sr, .int 0, .int 0, .int 0, .ref ir, .ref ih, .ref ss, .ref sq, .ref ce, .ref lw, .int 18, .int 13, .int 0, .int 0, .ref wo, .ref he, .int 1, .int 0, .int 1, .ref sk, .ref na, .ref kp, .int 0, .int 0, .int 0, .int 0, .ref gb, .ref go, .ref fa, .ref ga, .int 0, .int 0, .ref vo]))] H := hP.sub [0, 1, 2] rfl
  have hDc : va_D A [(tp, .inl (G.2.1, 160, .inl (gPf tB 40))), (wo, .inl (G.2.1, 96, .inl (gPf tW 96))), (h0, .inr (6, [.int 0, .ref kd, .ref mo, .ref st, .int 0, .ref ro, .ref tp, .int 40, .ref cd, .ref sr, .int 0, .int 0, .int 0, .ref ir, .ref ih, .ref ss, .ref sq, .ref ce, .ref lw, .int 18, .int 13, .int 0, .int 0, .ref wo, .ref he, .int 1, .int 0, .int 1, .ref sk, .ref na, .ref kp, .int 0, .int 0, .int 0, .int 0, .ref gb, .ref go, .ref fa, .ref ga, .int 0, .int 0, .ref vo]))] := hD.sub [0, 1, 2] (by decide) rfl
  have hFc := va_free (wc := [(tp, .inl (G.2.1, 160, .inl (gPf tB 40))), (wo, .inl (G.2.1, 96, .inl (gPf tW 96))), (h0, .inr (6, [.int 0, .ref kd, .ref mo, .ref st, .int 0, .ref ro, .ref tp, .int 40, .ref cd, .ref sr, .int 0, .int 0, .int 0, .ref ir, .ref ih, .ref ss, .ref sq, .ref ce, .ref lw, .int 18, .int 13, .int 0, .int 0, .ref wo, .ref he, .int 1, .int 0, .int 1, .ref sk, .ref na, .ref kp, .int 0, .int 0, .int 0, .int 0, .ref gb, .ref go, .ref fa, .ref ga, .int 0, .int 0, .ref vo]))]) hD hS hA [0, 1, 2] rfl
  refine va_calli (va_runV (As := [.int 13, .int 18]) (rest := []) ⟨hx, hb, hml, hown, hts⟩ (c_X6_wordFrom_z29 l G h0 tp wo kd mo st ro cd sr ir ih ss sq ce lw he sk na kp gb go fa ga vo H.size) (cwV 2 hts gX6_next_X6_wordFrom rfl rfl rfl (by decide +kernel) ⟨Nat.le_of_ble_eq_true rfl, Nat.le_of_ble_eq_true rfl⟩) ⟨gPre_blind, va_recv hK hPc (ci := 6) (q0 := 2) rfl rfl, fun U hU hW => gPre_of hU hW hK hPc hDc⟩ rfl rfl hl.1 rfl (lv_room (Nat.le_of_ble_eq_true rfl)) dX6_next_155 ⟨Nat.le_of_ble_eq_true rfl, Nat.le_of_ble_eq_true rfl⟩) hS (fun q _ h => hFc q h) hFc (fun r_50 u t H locs ht hvm w_51 hB hz1 hk1 hS => ?_)
  obtain ⟨hP1, hK1, hD1⟩ := hB
  rw [ht] at hP1
  have hP1 : va_P G.1 vwCl [(tp, .inl (G.2.1, 160, .inl (gPf tB 40))), (wo, .inl (G.2.1, 96, .inl (gPf tW 96))), (h0, .inr (6, [.int 0, .ref kd, .ref mo, .ref st, .int 0, .ref ro, .ref tp, .int 40, .ref cd, .ref sr, .int 0, .int 0, .int 0, .ref ir, .ref ih, .ref ss, .ref sq, .ref ce, .ref lw, .int 18, .int 13, .int 0, .int 0, .ref wo, .ref he, .int 1, .int 0, .int 1, .ref sk, .ref na, .ref kp, .int 0, .int 0, .int 0, .int 0, .ref gb, .ref go, .ref fa, .ref ga, .int 0, .int 0, .ref vo]))] H := hP1
  have hD1 : va_D (va_A [(tp, .inl (G.2.1, 160, .inl (gPf tB 40))), (wo, .inl (G.2.1, 96, .inl (gPf tW 96))), (h0, .inr (6, [.int 0, .ref kd, .ref mo, .ref st, .int 0, .ref ro, .ref tp, .int 40, .ref cd, .ref sr, .int 0, .int 0, .int 0, .ref ir, .ref ih, .ref ss, .ref sq, .ref ce, .ref lw, .int 18, .int 13, .int 0, .int 0, .ref wo, .ref he, .int 1, .int 0, .int 1, .ref sk, .ref na, .ref kp, .int 0, .int 0, .int 0, .int 0, .ref gb, .ref go, .ref fa, .ref ga, .int 0, .int 0, .ref vo]))] _) [(tp, .inl (G.2.1, 160, .inl (gPf tB 40))), (wo, .inl (G.2.1, 96, .inl (gPf tW 96))), (h0, .inr (6, [.int 0, .ref kd, .ref mo, .ref st, .int 0, .ref ro, .ref tp, .int 40, .ref cd, .ref sr, .int 0, .int 0, .int 0, .ref ir, .ref ih, .ref ss, .ref sq, .ref ce, .ref lw, .int 18, .int 13, .int 0, .int 0, .ref wo, .ref he, .int 1, .int 0, .int 1, .ref sk, .ref na, .ref kp, .int 0, .int 0, .int 0, .int 0, .ref gb, .ref go, .ref fa, .ref ga, .int 0, .int 0, .ref vo]))] := hD1
  have w_51 : r_50 = 4 := w_51
  obtain ⟨hP, hD⟩ := va_join (wr := []) (w1 := [(tp, .inl (G.2.1, 160, .inl (gPf tB 40))), (wo, .inl (G.2.1, 96, .inl (gPf tW 96))), (h0, .inr (6, [.int 0, .ref kd, .ref mo, .ref st, .int 0, .ref ro, .ref tp, .int 40, .ref cd, .ref sr, .int 0, .int 0, .int 0, .ref ir, .ref ih, .ref ss, .ref sq, .ref ce, .ref lw, .int 18, .int 13, .int 0, .int 0, .ref wo, .ref he, .int 1, .int 0, .int 1, .ref sk, .ref na, .ref kp, .int 0, .int 0, .int 0, .int 0, .ref gb, .ref go, .ref fa, .ref ga, .int 0, .int 0, .ref vo]))]) hP hD [0, 1, 2] [] rfl rfl (by decide) (by decide) hk1 hFc hP1 hD1
  have hP : va_P G.1 vwCl [(tp, .inl (G.2.1, 160, .inl (gPf tB 40))), (wo, .inl (G.2.1, 96, .inl (gPf tW 96))), (h0, .inr (6, [.int 0, .ref kd, .ref mo, .ref st, .int 0, .ref ro, .ref tp, .int 40, .ref cd, .ref sr, .int 0, .int 0, .int 0, .ref ir, .ref ih, .ref ss, .ref sq, .ref ce, .ref lw, .int 18, .int 13, .int 0, .int 0, .ref wo, .ref he, .int 1, .int 0, .int 1, .ref sk, .ref na, .ref kp, .int 0, .int 0, .int 0, .int 0, .ref gb, .ref go, .ref fa, .ref ga, .int 0, .int 0, .ref vo]))] H := hP
  have hD : va_D A [(tp, .inl (G.2.1, 160, .inl (gPf tB 40))), (wo, .inl (G.2.1, 96, .inl (gPf tW 96))), (h0, .inr (6, [.int 0, .ref kd, .ref mo, .ref st, .int 0, .ref ro, .ref tp, .int 40, .ref cd, .ref sr, .int 0, .int 0, .int 0, .ref ir, .ref ih, .ref ss, .ref sq, .ref ce, .ref lw, .int 18, .int 13, .int 0, .int 0, .ref wo, .ref he, .int 1, .int 0, .int 1, .ref sk, .ref na, .ref kp, .int 0, .int 0, .int 0, .int 0, .ref gb, .ref go, .ref fa, .ref ga, .int 0, .int 0, .ref vo]))] := hD
  have w_51 : r_50 = 4 := w_51
  subst w_51
  refine lv_istore_n (lv' := [(2, .int 4), (1, .int 114), (0, .ref h0)]) hx hb dX6_next_158 rfl hl (by decide) rfl (fun ls hl => ?_)
  refine lv_aload_n hx hb dX6_next_159 rfl (lv_at hl 2 rfl) ?_
  refine lv_iload_n hx hb dX6_next_160 rfl (lv_at hl 0 rfl) ?_
  refine lv_iconst (v := 3) hx hb dX6_next_161 (by decide) ?_
  refine lv_icmp_ge (tgt := 169) hx hb dX6_next_162 (by decide) (fun c_52 => ?_) (fun c_52 => ?_)
  rotate_left
  · exact absurd (by decide) c_52
  refine lv_iload_n hx hb dX6_next_169 rfl (lv_at hl 0 rfl) ?_
  refine lv_bipush (v := 9) hx hb dX6_next_170 (by decide) ?_
  refine lv_icmp_ge (tgt := 179) hx hb dX6_next_172 (by decide) (fun c_53 => ?_) (fun c_53 => ?_)
  · exact absurd c_53 (by decide)
  refine lv_iconst (v := 2) hx hb dX6_next_175 (by decide) ?_
  refine lv_goto (tgt := 195) hx hb dX6_next_176 (by decide) ?_
  refine va_put (D := G.1) (ci := 6) (v := .int 2) (ty := .int) (C := RX6) (T := TX6) (N := 42) hx hb hts hiX6 tyX6 tyX6_ok nmX6 hown hK hP hD hS 2 rfl rfl 21 (by decide) kf117 (fun _ h9 => h9) rfl (by decide +kernel) rfl rfl (Nat.le_of_ble_eq_true rfl) dX6_next_195 (fun H locs hP hD hS => ?_)
  have hP : va_P G.1 vwCl [(tp, .inl (G.2.1, 160, .inl (gPf tB 40))), (wo, .inl (G.2.1, 96, .inl (gPf tW 96))), (h0, .inr (6, [.int 0, .ref kd, .ref mo, .ref st, .int 0, .ref ro, .ref tp, .int 40, .ref cd, .ref sr, .int 0, .int 0, .int 0, .ref ir, .ref ih, .ref ss, .ref sq, .ref ce, .ref lw, .int 18, .int 13, .int 2, .int 0, .ref wo, .ref he, .int 1, .int 0, .int 1, .ref sk, .ref na, .ref kp, .int 0, .int 0, .int 0, .int 0, .ref gb, .ref go, .ref fa, .ref ga, .int 0, .int 0, .ref vo]))] H := hP
  have hD : va_D A [(tp, .inl (G.2.1, 160, .inl (gPf tB 40))), (wo, .inl (G.2.1, 96, .inl (gPf tW 96))), (h0, .inr (6, [.int 0, .ref kd, .ref mo, .ref st, .int 0, .ref ro, .ref tp, .int 40, .ref cd, .ref sr, .int 0, .int 0, .int 0, .ref ir, .ref ih, .ref ss, .ref sq, .ref ce, .ref lw, .int 18, .int 13, .int 2, .int 0, .ref wo, .ref he, .int 1, .int 0, .int 1, .ref sk, .ref na, .ref kp, .int 0, .int 0, .int 0, .int 0, .ref gb, .ref go, .ref fa, .ref ga, .int 0, .int 0, .ref vo]))] := hD
  refine lv_aload_n hx hb dX6_next_198 rfl (lv_at hl 2 rfl) ?_
  refine lv_iload_n hx hb dX6_next_199 rfl (lv_at hl 0 rfl) ?_
  refine lv_iconst (v := 3) hx hb dX6_next_200 (by decide) ?_
  refine lv_icmp_ge (tgt := 208) hx hb dX6_next_201 (by decide) (fun c_54 => ?_) (fun c_54 => ?_)
  rotate_left
  · exact absurd (by decide) c_54
  refine lv_iload_n hx hb dX6_next_208 rfl (lv_at hl 0 rfl) ?_
  refine lv_iconst (v := 3) hx hb dX6_next_209 (by decide) ?_
  refine lv_isub hx hb dX6_next_210 ?_
  refine lv_topi (fun v_55 ev_55 => ?_)
  have ev_55 : v_55 = 1 := ev_55.trans (by decide)
  subst ev_55
  refine va_put (D := G.1) (ci := 6) (v := .int 1) (ty := .int) (C := RX6) (T := TX6) (N := 42) hx hb hts hiX6 tyX6 tyX6_ok nmX6 hown hK hP hD hS 2 rfl rfl 22 (by decide) kf120 (fun _ h9 => h9) rfl (by decide +kernel) rfl rfl (Nat.le_of_ble_eq_true rfl) dX6_next_211 (fun H locs hP hD hS => ?_)
  have hP : va_P G.1 vwCl [(tp, .inl (G.2.1, 160, .inl (gPf tB 40))), (wo, .inl (G.2.1, 96, .inl (gPf tW 96))), (h0, .inr (6, [.int 0, .ref kd, .ref mo, .ref st, .int 0, .ref ro, .ref tp, .int 40, .ref cd, .ref sr, .int 0, .int 0, .int 0, .ref ir, .ref ih, .ref ss, .ref sq, .ref ce, .ref lw, .int 18, .int 13, .int 2, .int 1, .ref wo, .ref he, .int 1, .int 0, .int 1, .ref sk, .ref na, .ref kp, .int 0, .int 0, .int 0, .int 0, .ref gb, .ref go, .ref fa, .ref ga, .int 0, .int 0, .ref vo]))] H := hP
  have hD : va_D A [(tp, .inl (G.2.1, 160, .inl (gPf tB 40))), (wo, .inl (G.2.1, 96, .inl (gPf tW 96))), (h0, .inr (6, [.int 0, .ref kd, .ref mo, .ref st, .int 0, .ref ro, .ref tp, .int 40, .ref cd, .ref sr, .int 0, .int 0, .int 0, .ref ir, .ref ih, .ref ss, .ref sq, .ref ce, .ref lw, .int 18, .int 13, .int 2, .int 1, .ref wo, .ref he, .int 1, .int 0, .int 1, .ref sk, .ref na, .ref kp, .int 0, .int 0, .int 0, .int 0, .ref gb, .ref go, .ref fa, .ref ga, .int 0, .int 0, .ref vo]))] := hD
  refine lv_goto (tgt := 403) hx hb dX6_next_214 (by decide) ?_
  have hP9 := hP.sub (ws' := [(tp, .inl (G.2.1, 160, .inl (gPf tB 40))), (wo, .inl (G.2.1, 96, .inl (gPf tW 96))), (h0, .inr (6, [.int 0, .ref kd, .ref mo, .ref st, .int 0, .ref ro, .ref tp, .int 40, .ref cd, .ref sr, .int 0, .int 0, .int 0, .ref ir, .ref ih, .ref ss, .ref sq, .ref ce, .ref lw, .int 18, .int 13, .int 2, .int 1, .ref wo, .ref he, .int 1, .int 0, .int 1, .ref sk, .ref na, .ref kp, .int 0, .int 0, .int 0, .int 0, .ref gb, .ref go, .ref fa, .ref ga, .int 0, .int 0, .ref vo]))]) [0, 1, 2] rfl
  have hD9 := hD.sub (ws' := [(tp, .inl (G.2.1, 160, .inl (gPf tB 40))), (wo, .inl (G.2.1, 96, .inl (gPf tW 96))), (h0, .inr (6, [.int 0, .ref kd, .ref mo, .ref st, .int 0, .ref ro, .ref tp, .int 40, .ref cd, .ref sr, .int 0, .int 0, .int 0, .ref ir, .ref ih, .ref ss, .ref sq, .ref ce, .ref lw, .int 18, .int 13, .int 2, .int 1, .ref wo, .ref he, .int 1, .int 0, .int 1, .ref sk, .ref na, .ref kp, .int 0, .int 0, .int 0, .int 0, .ref gb, .ref go, .ref fa, .ref ga, .int 0, .int 0, .ref vo]))]) [0, 1, 2] (by decide) rfl
  have hpost : (fun (u : Unit) => match u with | _ => True) () := by first | rfl | trivial
  exact W.vret hx hb hr (fun t ht hW => ⟨⟨(), rfl, hpost, by rw [ht]; exact hP9, va_K.moved hW.alike hK, hD9⟩, hS.F ht⟩) hS.2.2 dX6_next_403
abbrev q_X6_puts_z30 (G : gG) (h0 cd kd mo st ro tp sr ir ih ss sq ce lw wo he sk na kp gb go fa ga vo : Nat) (A : Nat → Prop) : Array Value → State → Outcome → State → Prop := va_Qv (fun (u : Unit) => match u with | _ => True) (fun (u : Unit) t => match u with | _ => va_P G.1 vwCl [(cd, .inl (G.2.1, 1200, .inl (upd (upd (fun _ => 0) 0 0) 1 1))), (h0, .inr (6, [.int 0, .ref kd, .ref mo, .ref st, .int 0, .ref ro, .ref tp, .int 40, .ref cd, .ref sr, .int 0, .int 0, .int 0, .ref ir, .ref ih, .ref ss, .ref sq, .ref ce, .ref lw, .int 18, .int 13, .int 2, .int 1, .ref wo, .ref he, .int 1, .int 0, .int 2, .ref sk, .ref na, .ref kp, .int 0, .int 0, .int 0, .int 0, .ref gb, .ref go, .ref fa, .ref ga, .int 0, .int 0, .ref vo]))] t.heap ∧ gK G t ∧ va_D A [(cd, .inl (G.2.1, 1200, .inl (upd (upd (fun _ => 0) 0 0) 1 1))), (h0, .inr (6, [.int 0, .ref kd, .ref mo, .ref st, .int 0, .ref ro, .ref tp, .int 40, .ref cd, .ref sr, .int 0, .int 0, .int 0, .ref ir, .ref ih, .ref ss, .ref sq, .ref ce, .ref lw, .int 18, .int 13, .int 2, .int 1, .ref wo, .ref he, .int 1, .int 0, .int 2, .ref sk, .ref na, .ref kp, .int 0, .int 0, .int 0, .int 0, .ref gb, .ref go, .ref fa, .ref ga, .int 0, .int 0, .ref vo]))]) A
set_option maxHeartbeats 4000000 in
set_option maxRecDepth 100000 in
theorem c_X6_puts_z30 (l : Launch) (G : gG) (h0 cd kd mo st ro tp sr ir ih ss sq ce lw wo he sk na kp gb go fa ga vo : Nat) (sz : Nat) : Met l yX6_puts wsX6_puts ({ frames := 0, cells := 0, slots := 0, locals := 0 }) (gPre G [.ref h0, .int 1] [(cd, .inl (G.2.1, 1200, .inl (upd (fun _ => 0) 0 0))), (h0, .inr (6, [.int 0, .ref kd, .ref mo, .ref st, .int 0, .ref ro, .ref tp, .int 40, .ref cd, .ref sr, .int 0, .int 0, .int 0, .ref ir, .ref ih, .ref ss, .ref sq, .ref ce, .ref lw, .int 18, .int 13, .int 2, .int 1, .ref wo, .ref he, .int 1, .int 0, .int 1, .ref sk, .ref na, .ref kp, .int 0, .int 0, .int 0, .int 0, .ref gb, .ref go, .ref fa, .ref ga, .int 0, .int 0, .ref vo]))] sz) (q_X6_puts_z30 G h0 cd kd mo st ro tp sr ir ih ss sq ce lw wo he sk na kp gb go fa ga vo (va_A [(cd, .inl (G.2.1, 1200, .inl (upd (fun _ => 0) 0 0))), (h0, .inr (6, [.int 0, .ref kd, .ref mo, .ref st, .int 0, .ref ro, .ref tp, .int 40, .ref cd, .ref sr, .int 0, .int 0, .int 0, .ref ir, .ref ih, .ref ss, .ref sq, .ref ce, .ref lw, .int 18, .int 13, .int 2, .int 1, .ref wo, .ref he, .int 1, .int 0, .int 1, .ref sk, .ref na, .ref kp, .int 0, .int 0, .int 0, .int 0, .ref gb, .ref go, .ref fa, .ref ga, .int 0, .int 0, .ref vo]))] sz)) 0 0 (va_A [(cd, .inl (G.2.1, 1200, .inl (upd (fun _ => 0) 0 0))), (h0, .inr (6, [.int 0, .ref kd, .ref mo, .ref st, .int 0, .ref ro, .ref tp, .int 40, .ref cd, .ref sr, .int 0, .int 0, .int 0, .ref ir, .ref ih, .ref ss, .ref sq, .ref ce, .ref lw, .int 18, .int 13, .int 2, .int 1, .ref wo, .ref he, .int 1, .int 0, .int 1, .ref sk, .ref na, .ref kp, .int 0, .int 0, .int 0, .int 0, .ref gb, .ref go, .ref fa, .ref ga, .int 0, .int 0, .ref vo]))] sz) := by
  refine Met.ofW (cc := cX6_puts) (maxL := 2) (ret := none) (by decide) rfl ?_
  intro p e s m args below meth c s₁ B hml hv
  obtain ⟨rfl, hsz, hP, hK, hD0⟩ := hv
  have hx := B.exec
  have hb := B.bytes
  have hr := B.returns
  have hts := atoms_spec (ws := wsX6_puts) B.pre
  have hown : s.vm.findClass RX6 = some m.cls := findClass_of_methodNamed B.named
  have hlocks := B.notSynchronized
  subst hsz
  have hD := hD0.self (sz := s.heap.size)
  generalize hAe : va_A [(cd, .inl (G.2.1, 1200, .inl (upd (fun _ => 0) 0 0))), (h0, .inr (6, [.int 0, .ref kd, .ref mo, .ref st, .int 0, .ref ro, .ref tp, .int 40, .ref cd, .ref sr, .int 0, .int 0, .int 0, .ref ir, .ref ih, .ref ss, .ref sq, .ref ce, .ref lw, .int 18, .int 13, .int 2, .int 1, .ref wo, .ref he, .int 1, .int 0, .int 1, .ref sk, .ref na, .ref kp, .int 0, .int 0, .int 0, .int 0, .ref gb, .ref go, .ref fa, .ref ga, .int 0, .int 0, .ref vo]))] s.heap.size = A at hD ⊢
  have hA : ∀ q : Nat, s.heap.size ≤ q → A q := fun q h => by rw [← hAe]; exact Or.inr h
  have hS : va_S A s.heap s.heap [] := va_S.rf
  have hP : va_P G.1 vwCl [(cd, .inl (G.2.1, 1200, .inl (upd (fun _ => 0) 0 0))), (h0, .inr (6, [.int 0, .ref kd, .ref mo, .ref st, .int 0, .ref ro, .ref tp, .int 40, .ref cd, .ref sr, .int 0, .int 0, .int 0, .ref ir, .ref ih, .ref ss, .ref sq, .ref ce, .ref lw, .int 18, .int 13, .int 2, .int 1, .ref wo, .ref he, .int 1, .int 0, .int 1, .ref sk, .ref na, .ref kp, .int 0, .int 0, .int 0, .int 0, .ref gb, .ref go, .ref fa, .ref ga, .int 0, .int 0, .ref vo]))] s.heap := hP
  have hD : va_D A [(cd, .inl (G.2.1, 1200, .inl (upd (fun _ => 0) 0 0))), (h0, .inr (6, [.int 0, .ref kd, .ref mo, .ref st, .int 0, .ref ro, .ref tp, .int 40, .ref cd, .ref sr, .int 0, .int 0, .int 0, .ref ir, .ref ih, .ref ss, .ref sq, .ref ce, .ref lw, .int 18, .int 13, .int 2, .int 1, .ref wo, .ref he, .int 1, .int 0, .int 1, .ref sk, .ref na, .ref kp, .int 0, .int 0, .int 0, .int 0, .ref gb, .ref go, .ref fa, .ref ga, .int 0, .int 0, .ref vo]))] := hD
  have hl := lv_entry ([.ref h0, .int 1]) (n := 2) (Nat.le_of_ble_eq_true rfl)
  rw [lg_entry_eq]
  generalize (lg_sl ([.ref h0, .int 1]) ++ List.replicate (2 - (lg_sl ([.ref h0, .int 1])).length) Slot.unset).toArray = ls at hl ⊢
  have hl : lv_has ls 2 [(0, .ref h0), (1, .int 1)] := hl
  have kf25 := hts (.fieldLink RX6 25 "PebbleInShoeModel" "codes" "[I") (by decide +kernel)
  have hiX6 := (by decide +kernel : ∀ w ∈ wsX60, w ∈ wsX6_puts)
  have kf98 := hts (.fieldLink RX6 98 "PebbleInShoeModel" "texts" "I") (by decide +kernel)
  have kf127 := hts (.fieldLink RX6 127 "PebbleInShoeModel" "out" "I") (by decide +kernel)
  refine lv_aload_n hx hb dX6_puts_0 rfl (lv_at hl 0 rfl) ?_
  refine va_get (D := G.1) (ci := 6) (v := .ref cd) (C := RX6) (T := TX6) (N := 42) hx hb hts hiX6 hown hK hP 1 rfl rfl 8 (by decide) kf25 (fun _ h9 => h9) rfl dX6_puts_1 ?_
  refine lv_sipush (v := 200) hx hb dX6_puts_4 (by decide) ?_
  refine lv_aload_n hx hb dX6_puts_7 rfl (lv_at hl 0 rfl) ?_
  refine va_get (D := G.1) (ci := 6) (v := .int 0) (C := RX6) (T := TX6) (N := 42) hx hb hts hiX6 hown hK hP 1 rfl rfl 10 (by decide) kf98 (fun _ h9 => h9) rfl dX6_puts_8 ?_
  refine lv_imul hx hb dX6_puts_11 ?_
  refine lv_topi (fun v_1 ev_1 => ?_)
  have ev_1 : v_1 = 0 := ev_1.trans (by decide)
  subst ev_1
  refine lv_aload_n hx hb dX6_puts_12 rfl (lv_at hl 0 rfl) ?_
  refine va_get (D := G.1) (ci := 6) (v := .int 1) (C := RX6) (T := TX6) (N := 42) hx hb hts hiX6 hown hK hP 1 rfl rfl 27 (by decide) kf127 (fun _ h9 => h9) rfl dX6_puts_13 ?_
  refine lv_iadd hx hb dX6_puts_16 ?_
  refine lv_topi (fun v_2 ev_2 => ?_)
  have ev_2 : v_2 = 1 := ev_2.trans (by decide)
  subst ev_2
  refine lv_iload_n hx hb dX6_puts_17 rfl (lv_at hl 1 rfl) ?_
  refine va_iast (D := G.1) hx hb hK hP hD hS 0 0 rfl rfl (i := 1) (x := 1) (gIn (by decide)) dX6_puts_18 (fun H locs hP hD hS => ?_)
  have hP : va_P G.1 vwCl [(cd, .inl (G.2.1, 1200, .inl (upd (upd (fun _ => 0) 0 0) 1 1))), (h0, .inr (6, [.int 0, .ref kd, .ref mo, .ref st, .int 0, .ref ro, .ref tp, .int 40, .ref cd, .ref sr, .int 0, .int 0, .int 0, .ref ir, .ref ih, .ref ss, .ref sq, .ref ce, .ref lw, .int 18, .int 13, .int 2, .int 1, .ref wo, .ref he, .int 1, .int 0, .int 1, .ref sk, .ref na, .ref kp, .int 0, .int 0, .int 0, .int 0, .ref gb, .ref go, .ref fa, .ref ga, .int 0, .int 0, .ref vo]))] H := hP
  have hD : va_D A [(cd, .inl (G.2.1, 1200, .inl (upd (upd (fun _ => 0) 0 0) 1 1))), (h0, .inr (6, [.int 0, .ref kd, .ref mo, .ref st, .int 0, .ref ro, .ref tp, .int 40, .ref cd, .ref sr, .int 0, .int 0, .int 0, .ref ir, .ref ih, .ref ss, .ref sq, .ref ce, .ref lw, .int 18, .int 13, .int 2, .int 1, .ref wo, .ref he, .int 1, .int 0, .int 1, .ref sk, .ref na, .ref kp, .int 0, .int 0, .int 0, .int 0, .ref gb, .ref go, .ref fa, .ref ga, .int 0, .int 0, .ref vo]))] := hD
  refine lv_aload_n hx hb dX6_puts_19 rfl (lv_at hl 0 rfl) ?_
  refine lv_dup hx hb dX6_puts_20 rfl ?_
  refine va_get (D := G.1) (ci := 6) (v := .int 1) (C := RX6) (T := TX6) (N := 42) hx hb hts hiX6 hown hK hP 1 rfl rfl 27 (by decide) kf127 (fun _ h9 => h9) rfl dX6_puts_21 ?_
  refine lv_iconst (v := 1) hx hb dX6_puts_24 (by decide) ?_
  refine lv_iadd hx hb dX6_puts_25 ?_
  refine lv_topi (fun v_3 ev_3 => ?_)
  have ev_3 : v_3 = 2 := ev_3.trans (by decide)
  subst ev_3
  refine va_put (D := G.1) (ci := 6) (v := .int 2) (ty := .int) (C := RX6) (T := TX6) (N := 42) hx hb hts hiX6 tyX6 tyX6_ok nmX6 hown hK hP hD hS 1 rfl rfl 27 (by decide) kf127 (fun _ h9 => h9) rfl (by decide +kernel) rfl rfl (Nat.le_of_ble_eq_true rfl) dX6_puts_26 (fun H locs hP hD hS => ?_)
  have hP : va_P G.1 vwCl [(cd, .inl (G.2.1, 1200, .inl (upd (upd (fun _ => 0) 0 0) 1 1))), (h0, .inr (6, [.int 0, .ref kd, .ref mo, .ref st, .int 0, .ref ro, .ref tp, .int 40, .ref cd, .ref sr, .int 0, .int 0, .int 0, .ref ir, .ref ih, .ref ss, .ref sq, .ref ce, .ref lw, .int 18, .int 13, .int 2, .int 1, .ref wo, .ref he, .int 1, .int 0, .int 2, .ref sk, .ref na, .ref kp, .int 0, .int 0, .int 0, .int 0, .ref gb, .ref go, .ref fa, .ref ga, .int 0, .int 0, .ref vo]))] H := hP
  have hD : va_D A [(cd, .inl (G.2.1, 1200, .inl (upd (upd (fun _ => 0) 0 0) 1 1))), (h0, .inr (6, [.int 0, .ref kd, .ref mo, .ref st, .int 0, .ref ro, .ref tp, .int 40, .ref cd, .ref sr, .int 0, .int 0, .int 0, .ref ir, .ref ih, .ref ss, .ref sq, .ref ce, .ref lw, .int 18, .int 13, .int 2, .int 1, .ref wo, .ref he, .int 1, .int 0, .int 2, .ref sk, .ref na, .ref kp, .int 0, .int 0, .int 0, .int 0, .ref gb, .ref go, .ref fa, .ref ga, .int 0, .int 0, .ref vo]))] := hD
  have hP9 := hP.sub (ws' := [(cd, .inl (G.2.1, 1200, .inl (upd (upd (fun _ => 0) 0 0) 1 1))), (h0, .inr (6, [.int 0, .ref kd, .ref mo, .ref st, .int 0, .ref ro, .ref tp, .int 40, .ref cd, .ref sr, .int 0, .int 0, .int 0, .ref ir, .ref ih, .ref ss, .ref sq, .ref ce, .ref lw, .int 18, .int 13, .int 2, .int 1, .ref wo, .ref he, .int 1, .int 0, .int 2, .ref sk, .ref na, .ref kp, .int 0, .int 0, .int 0, .int 0, .ref gb, .ref go, .ref fa, .ref ga, .int 0, .int 0, .ref vo]))]) [0, 1] rfl
  have hD9 := hD.sub (ws' := [(cd, .inl (G.2.1, 1200, .inl (upd (upd (fun _ => 0) 0 0) 1 1))), (h0, .inr (6, [.int 0, .ref kd, .ref mo, .ref st, .int 0, .ref ro, .ref tp, .int 40, .ref cd, .ref sr, .int 0, .int 0, .int 0, .ref ir, .ref ih, .ref ss, .ref sq, .ref ce, .ref lw, .int 18, .int 13, .int 2, .int 1, .ref wo, .ref he, .int 1, .int 0, .int 2, .ref sk, .ref na, .ref kp, .int 0, .int 0, .int 0, .int 0, .ref gb, .ref go, .ref fa, .ref ga, .int 0, .int 0, .ref vo]))]) [0, 1] (by decide) rfl
  have hpost : (fun (u : Unit) => match u with | _ => True) () := by first | rfl | trivial
  exact W.vret hx hb hr (fun t ht hW => ⟨⟨(), rfl, hpost, by rw [ht]; exact hP9, va_K.moved hW.alike hK, hD9⟩, hS.F ht⟩) hS.2.2 dX6_puts_29
abbrev q_X6_unwinds_z31 (G : gG) (h0 he cd kd mo st ro tp sr ir ih ss sq ce lw wo sk na kp gb go fa ga vo : Nat) (A : Nat → Prop) : Array Value → State → Outcome → State → Prop := va_Qv (fun (u : Unit) => match u with | _ => True) (fun (u : Unit) t => match u with | _ => va_P G.1 vwCl [(he, .inl (G.2.1, 200, .inl (upd (fun _ => 0) 0 17))), (cd, .inl (G.2.1, 1200, .inl (upd (upd (fun _ => 0) 0 0) 1 1))), (h0, .inr (6, [.int 0, .ref kd, .ref mo, .ref st, .int 0, .ref ro, .ref tp, .int 40, .ref cd, .ref sr, .int 0, .int 0, .int 0, .ref ir, .ref ih, .ref ss, .ref sq, .ref ce, .ref lw, .int 18, .int 13, .int 2, .int 1, .ref wo, .ref he, .int 1, .int 0, .int 2, .ref sk, .ref na, .ref kp, .int 0, .int 0, .int 0, .int 0, .ref gb, .ref go, .ref fa, .ref ga, .int 0, .int 0, .ref vo]))] t.heap ∧ gK G t ∧ va_D A [(he, .inl (G.2.1, 200, .inl (upd (fun _ => 0) 0 17))), (cd, .inl (G.2.1, 1200, .inl (upd (upd (fun _ => 0) 0 0) 1 1))), (h0, .inr (6, [.int 0, .ref kd, .ref mo, .ref st, .int 0, .ref ro, .ref tp, .int 40, .ref cd, .ref sr, .int 0, .int 0, .int 0, .ref ir, .ref ih, .ref ss, .ref sq, .ref ce, .ref lw, .int 18, .int 13, .int 2, .int 1, .ref wo, .ref he, .int 1, .int 0, .int 2, .ref sk, .ref na, .ref kp, .int 0, .int 0, .int 0, .int 0, .ref gb, .ref go, .ref fa, .ref ga, .int 0, .int 0, .ref vo]))]) A
set_option maxHeartbeats 4000000 in
set_option maxRecDepth 100000 in
theorem c_X6_unwinds_z31 (l : Launch) (G : gG) (h0 he cd kd mo st ro tp sr ir ih ss sq ce lw wo sk na kp gb go fa ga vo : Nat) (sz : Nat) : Met l yX6_unwinds wsX6_unwinds ({ frames := 1, cells := 0, slots := 0, locals := 20 }) (gPre G [.ref h0, .int 7] [(he, .inl (G.2.1, 200, .inl (upd (fun _ => 0) 0 17))), (cd, .inl (G.2.1, 1200, .inl (upd (upd (fun _ => 0) 0 0) 1 1))), (h0, .inr (6, [.int 0, .ref kd, .ref mo, .ref st, .int 0, .ref ro, .ref tp, .int 40, .ref cd, .ref sr, .int 0, .int 0, .int 0, .ref ir, .ref ih, .ref ss, .ref sq, .ref ce, .ref lw, .int 18, .int 13, .int 2, .int 1, .ref wo, .ref he, .int 1, .int 0, .int 2, .ref sk, .ref na, .ref kp, .int 0, .int 0, .int 0, .int 0, .ref gb, .ref go, .ref fa, .ref ga, .int 0, .int 0, .ref vo]))] sz) (q_X6_unwinds_z31 G h0 he cd kd mo st ro tp sr ir ih ss sq ce lw wo sk na kp gb go fa ga vo (va_A [(he, .inl (G.2.1, 200, .inl (upd (fun _ => 0) 0 17))), (cd, .inl (G.2.1, 1200, .inl (upd (upd (fun _ => 0) 0 0) 1 1))), (h0, .inr (6, [.int 0, .ref kd, .ref mo, .ref st, .int 0, .ref ro, .ref tp, .int 40, .ref cd, .ref sr, .int 0, .int 0, .int 0, .ref ir, .ref ih, .ref ss, .ref sq, .ref ce, .ref lw, .int 18, .int 13, .int 2, .int 1, .ref wo, .ref he, .int 1, .int 0, .int 2, .ref sk, .ref na, .ref kp, .int 0, .int 0, .int 0, .int 0, .ref gb, .ref go, .ref fa, .ref ga, .int 0, .int 0, .ref vo]))] sz)) 0 0 (va_A [(he, .inl (G.2.1, 200, .inl (upd (fun _ => 0) 0 17))), (cd, .inl (G.2.1, 1200, .inl (upd (upd (fun _ => 0) 0 0) 1 1))), (h0, .inr (6, [.int 0, .ref kd, .ref mo, .ref st, .int 0, .ref ro, .ref tp, .int 40, .ref cd, .ref sr, .int 0, .int 0, .int 0, .ref ir, .ref ih, .ref ss, .ref sq, .ref ce, .ref lw, .int 18, .int 13, .int 2, .int 1, .ref wo, .ref he, .int 1, .int 0, .int 2, .ref sk, .ref na, .ref kp, .int 0, .int 0, .int 0, .int 0, .ref gb, .ref go, .ref fa, .ref ga, .int 0, .int 0, .ref vo]))] sz) := by
  refine Met.ofW (cc := cX6_unwinds) (maxL := 3) (ret := none) (by decide) rfl ?_
  intro p e s m args below meth c s₁ B hml hv
  obtain ⟨rfl, hsz, hP, hK, hD0⟩ := hv
  have hx := B.exec
  have hb := B.bytes
  have hr := B.returns
  have hts := atoms_spec (ws := wsX6_unwinds) B.pre
  have hown : s.vm.findClass RX6 = some m.cls := findClass_of_methodNamed B.named
  have hlocks := B.notSynchronized
  subst hsz
  have hD := hD0.self (sz := s.heap.size)
  generalize hAe : va_A [(he, .inl (G.2.1, 200, .inl (upd (fun _ => 0) 0 17))), (cd, .inl (G.2.1, 1200, .inl (upd (upd (fun _ => 0) 0 0) 1 1))), (h0, .inr (6, [.int 0, .ref kd, .ref mo, .ref st, .int 0, .ref ro, .ref tp, .int 40, .ref cd, .ref sr, .int 0, .int 0, .int 0, .ref ir, .ref ih, .ref ss, .ref sq, .ref ce, .ref lw, .int 18, .int 13, .int 2, .int 1, .ref wo, .ref he, .int 1, .int 0, .int 2, .ref sk, .ref na, .ref kp, .int 0, .int 0, .int 0, .int 0, .ref gb, .ref go, .ref fa, .ref ga, .int 0, .int 0, .ref vo]))] s.heap.size = A at hD ⊢
  have hA : ∀ q : Nat, s.heap.size ≤ q → A q := fun q h => by rw [← hAe]; exact Or.inr h
  have hS : va_S A s.heap s.heap [] := va_S.rf
  have hP : va_P G.1 vwCl [(he, .inl (G.2.1, 200, .inl (upd (fun _ => 0) 0 17))), (cd, .inl (G.2.1, 1200, .inl (upd (upd (fun _ => 0) 0 0) 1 1))), (h0, .inr (6, [.int 0, .ref kd, .ref mo, .ref st, .int 0, .ref ro, .ref tp, .int 40, .ref cd, .ref sr, .int 0, .int 0, .int 0, .ref ir, .ref ih, .ref ss, .ref sq, .ref ce, .ref lw, .int 18, .int 13, .int 2, .int 1, .ref wo, .ref he, .int 1, .int 0, .int 2, .ref sk, .ref na, .ref kp, .int 0, .int 0, .int 0, .int 0, .ref gb, .ref go, .ref fa, .ref ga, .int 0, .int 0, .ref vo]))] s.heap := hP
  have hD : va_D A [(he, .inl (G.2.1, 200, .inl (upd (fun _ => 0) 0 17))), (cd, .inl (G.2.1, 1200, .inl (upd (upd (fun _ => 0) 0 0) 1 1))), (h0, .inr (6, [.int 0, .ref kd, .ref mo, .ref st, .int 0, .ref ro, .ref tp, .int 40, .ref cd, .ref sr, .int 0, .int 0, .int 0, .ref ir, .ref ih, .ref ss, .ref sq, .ref ce, .ref lw, .int 18, .int 13, .int 2, .int 1, .ref wo, .ref he, .int 1, .int 0, .int 2, .ref sk, .ref na, .ref kp, .int 0, .int 0, .int 0, .int 0, .ref gb, .ref go, .ref fa, .ref ga, .int 0, .int 0, .ref vo]))] := hD
  have hl := lv_entry ([.ref h0, .int 7]) (n := 3) (Nat.le_of_ble_eq_true rfl)
  rw [lg_entry_eq]
  generalize (lg_sl ([.ref h0, .int 7]) ++ List.replicate (3 - (lg_sl ([.ref h0, .int 7])).length) Slot.unset).toArray = ls at hl ⊢
  have hl : lv_has ls 3 [(0, .ref h0), (1, .int 7)] := hl
  have kf130 := hts (.fieldLink RX6 130 "PebbleInShoeModel" "heldMany" "I") (by decide +kernel)
  have hiX6 := (by decide +kernel : ∀ w ∈ wsX60, w ∈ wsX6_unwinds)
  have kf52 := hts (.fieldLink RX6 52 "PebbleInShoeModel" "held" "[I") (by decide +kernel)
  refine lv_aload_n hx hb dX6_unwinds_0 rfl (lv_at hl 0 rfl) ?_
  refine va_get (D := G.1) (ci := 6) (v := .int 1) (C := RX6) (T := TX6) (N := 42) hx hb hts hiX6 hown hK hP 2 rfl rfl 25 (by decide) kf130 (fun _ h9 => h9) rfl dX6_unwinds_1 ?_
  refine lv_if_le (tgt := 79) hx hb dX6_unwinds_4 (by decide) (fun c_1 => ?_) (fun c_1 => ?_)
  · exact absurd c_1 (by decide)
  refine lv_aload_n hx hb dX6_unwinds_7 rfl (lv_at hl 0 rfl) ?_
  refine va_get (D := G.1) (ci := 6) (v := .ref he) (C := RX6) (T := TX6) (N := 42) hx hb hts hiX6 hown hK hP 2 rfl rfl 24 (by decide) kf52 (fun _ h9 => h9) rfl dX6_unwinds_8 ?_
  refine lv_aload_n hx hb dX6_unwinds_11 rfl (lv_at hl 0 rfl) ?_
  refine va_get (D := G.1) (ci := 6) (v := .int 1) (C := RX6) (T := TX6) (N := 42) hx hb hts hiX6 hown hK hP 2 rfl rfl 25 (by decide) kf130 (fun _ h9 => h9) rfl dX6_unwinds_12 ?_
  refine lv_iconst (v := 1) hx hb dX6_unwinds_15 (by decide) ?_
  refine lv_isub hx hb dX6_unwinds_16 ?_
  refine lv_topi (fun v_2 ev_2 => ?_)
  have ev_2 : v_2 = 0 := ev_2.trans (by decide)
  subst ev_2
  refine va_iald (D := G.1) hx hb hK hP 0 0 rfl rfl (i := 0) (gIn (by decide)) dX6_unwinds_17 ?_
  refine lv_topi (fun v_3 ev_3 => ?_)
  have ev_3 : v_3 = 17 := ev_3.trans (by decide)
  subst ev_3
  have hPc : va_P G.1 vwCl [] s.heap := hP.sub [] rfl
  have hDc : va_D A [] := hD.sub [] (by decide) rfl
  have hFc := va_free (wc := []) hD hS hA [] rfl
  refine va_calli (va_runS (As := [.int 17]) (rest := []) ⟨hx, hb, hml, hown, hts⟩ (c_X6_rank_z20 l G s.heap.size) (va_cwS 1 hts gX6_unwinds_X6_rank rfl rfl rfl (by decide +kernel) ⟨Nat.le_of_ble_eq_true rfl, Nat.le_of_ble_eq_true rfl⟩) ⟨gPre_blind, fun U hU hW => gPre_of hU hW hK hPc hDc⟩ rfl rfl hl.1 rfl (lv_room (Nat.le_of_ble_eq_true rfl)) dX6_unwinds_18 ⟨Nat.le_of_ble_eq_true rfl, Nat.le_of_ble_eq_true rfl⟩) hS (fun q _ h => hFc q h) hFc (fun r_4 u t H locs ht hvm w_5 hB hz1 hk1 hS => ?_)
  obtain ⟨hP1, hK1, hD1⟩ := hB
  rw [ht] at hP1
  have hP1 : va_P G.1 vwCl [] H := hP1
  have hD1 : va_D (va_A [] s.heap.size) [] := hD1
  have w_5 : r_4 = 5 := w_5
  obtain ⟨hP, hD⟩ := va_join (wr := [(he, .inl (G.2.1, 200, .inl (upd (fun _ => 0) 0 17))), (cd, .inl (G.2.1, 1200, .inl (upd (upd (fun _ => 0) 0 0) 1 1))), (h0, .inr (6, [.int 0, .ref kd, .ref mo, .ref st, .int 0, .ref ro, .ref tp, .int 40, .ref cd, .ref sr, .int 0, .int 0, .int 0, .ref ir, .ref ih, .ref ss, .ref sq, .ref ce, .ref lw, .int 18, .int 13, .int 2, .int 1, .ref wo, .ref he, .int 1, .int 0, .int 2, .ref sk, .ref na, .ref kp, .int 0, .int 0, .int 0, .int 0, .ref gb, .ref go, .ref fa, .ref ga, .int 0, .int 0, .ref vo]))]) (w1 := []) hP hD [] [0, 1, 2] rfl rfl (by decide) (by decide) hk1 hFc hP1 hD1
  have hP : va_P G.1 vwCl [(he, .inl (G.2.1, 200, .inl (upd (fun _ => 0) 0 17))), (cd, .inl (G.2.1, 1200, .inl (upd (upd (fun _ => 0) 0 0) 1 1))), (h0, .inr (6, [.int 0, .ref kd, .ref mo, .ref st, .int 0, .ref ro, .ref tp, .int 40, .ref cd, .ref sr, .int 0, .int 0, .int 0, .ref ir, .ref ih, .ref ss, .ref sq, .ref ce, .ref lw, .int 18, .int 13, .int 2, .int 1, .ref wo, .ref he, .int 1, .int 0, .int 2, .ref sk, .ref na, .ref kp, .int 0, .int 0, .int 0, .int 0, .ref gb, .ref go, .ref fa, .ref ga, .int 0, .int 0, .ref vo]))] H := hP
  have hD : va_D A [(he, .inl (G.2.1, 200, .inl (upd (fun _ => 0) 0 17))), (cd, .inl (G.2.1, 1200, .inl (upd (upd (fun _ => 0) 0 0) 1 1))), (h0, .inr (6, [.int 0, .ref kd, .ref mo, .ref st, .int 0, .ref ro, .ref tp, .int 40, .ref cd, .ref sr, .int 0, .int 0, .int 0, .ref ir, .ref ih, .ref ss, .ref sq, .ref ce, .ref lw, .int 18, .int 13, .int 2, .int 1, .ref wo, .ref he, .int 1, .int 0, .int 2, .ref sk, .ref na, .ref kp, .int 0, .int 0, .int 0, .int 0, .ref gb, .ref go, .ref fa, .ref ga, .int 0, .int 0, .ref vo]))] := hD
  have w_5 : r_4 = 5 := w_5
  subst w_5
  refine lv_iload_n hx hb dX6_unwinds_21 rfl (lv_at hl 1 rfl) ?_
  refine lv_icmp_lt (tgt := 79) hx hb dX6_unwinds_22 (by decide) (fun c_6 => ?_) (fun c_6 => ?_)
  rotate_left
  · exact absurd (by decide) c_6
  have hP9 := hP.sub (ws' := [(he, .inl (G.2.1, 200, .inl (upd (fun _ => 0) 0 17))), (cd, .inl (G.2.1, 1200, .inl (upd (upd (fun _ => 0) 0 0) 1 1))), (h0, .inr (6, [.int 0, .ref kd, .ref mo, .ref st, .int 0, .ref ro, .ref tp, .int 40, .ref cd, .ref sr, .int 0, .int 0, .int 0, .ref ir, .ref ih, .ref ss, .ref sq, .ref ce, .ref lw, .int 18, .int 13, .int 2, .int 1, .ref wo, .ref he, .int 1, .int 0, .int 2, .ref sk, .ref na, .ref kp, .int 0, .int 0, .int 0, .int 0, .ref gb, .ref go, .ref fa, .ref ga, .int 0, .int 0, .ref vo]))]) [0, 1, 2] rfl
  have hD9 := hD.sub (ws' := [(he, .inl (G.2.1, 200, .inl (upd (fun _ => 0) 0 17))), (cd, .inl (G.2.1, 1200, .inl (upd (upd (fun _ => 0) 0 0) 1 1))), (h0, .inr (6, [.int 0, .ref kd, .ref mo, .ref st, .int 0, .ref ro, .ref tp, .int 40, .ref cd, .ref sr, .int 0, .int 0, .int 0, .ref ir, .ref ih, .ref ss, .ref sq, .ref ce, .ref lw, .int 18, .int 13, .int 2, .int 1, .ref wo, .ref he, .int 1, .int 0, .int 2, .ref sk, .ref na, .ref kp, .int 0, .int 0, .int 0, .int 0, .ref gb, .ref go, .ref fa, .ref ga, .int 0, .int 0, .ref vo]))]) [0, 1, 2] (by decide) rfl
  have hpost : (fun (u : Unit) => match u with | _ => True) () := by first | rfl | trivial
  exact W.vret hx hb hr (fun t ht hW => ⟨⟨(), rfl, hpost, by rw [ht]; exact hP9, va_K.moved hW.alike hK, hD9⟩, hS.F ht⟩) hS.2.2 dX6_unwinds_79
abbrev q_X6_in_z33 (G : gG) (A : Nat → Prop) : Array Value → State → Outcome → State → Prop := va_Qi (fun (r : Int32) (u : Unit) => match u with | _ => r = 0) (fun (u : Unit) t => match u with | _ => va_P G.1 vwCl [] t.heap ∧ gK G t ∧ va_D A []) A
set_option maxHeartbeats 4000000 in
set_option maxRecDepth 100000 in
theorem c_X6_in_z33 (l : Launch) (G : gG) (sz : Nat) : Met l yX6_in wsX6_in ({ frames := 0, cells := 0, slots := 0, locals := 0 }) (gPre G [.int 59, .int 97, .int 122] [] sz) (q_X6_in_z33 G (va_A [] sz)) 0 0 (va_A [] sz) := by
  refine Met.ofW (cc := cX6_in) (maxL := 3) (ret := (some .boolean)) (by decide) rfl ?_
  intro p e s m args below meth c s₁ B hml hv
  obtain ⟨rfl, hsz, hP, hK, hD0⟩ := hv
  have hx := B.exec
  have hb := B.bytes
  have hr := B.returns
  have hts := atoms_spec (ws := wsX6_in) B.pre
  have hown : s.vm.findClass RX6 = some m.cls := findClass_of_methodNamed B.named
  have hlocks := B.notSynchronized
  subst hsz
  have hD := hD0.self (sz := s.heap.size)
  generalize hAe : va_A [] s.heap.size = A at hD ⊢
  have hA : ∀ q : Nat, s.heap.size ≤ q → A q := fun q h => by rw [← hAe]; exact Or.inr h
  have hS : va_S A s.heap s.heap [] := va_S.rf
  have hP : va_P G.1 vwCl [] s.heap := hP
  have hD : va_D A [] := hD
  have hl := lv_entry ([.int 59, .int 97, .int 122]) (n := 3) (Nat.le_of_ble_eq_true rfl)
  rw [lg_entry_eq]
  generalize (lg_sl ([.int 59, .int 97, .int 122]) ++ List.replicate (3 - (lg_sl ([.int 59, .int 97, .int 122])).length) Slot.unset).toArray = ls at hl ⊢
  have hl : lv_has ls 3 [(0, .int 59), (1, .int 97), (2, .int 122)] := hl
  refine lv_iload_n hx hb dX6_in_0 rfl (lv_at hl 0 rfl) ?_
  refine lv_iload_n hx hb dX6_in_1 rfl (lv_at hl 1 rfl) ?_
  refine lv_icmp_lt (tgt := 14) hx hb dX6_in_2 (by decide) (fun c_1 => ?_) (fun c_1 => ?_)
  rotate_left
  · exact absurd (by decide) c_1
  refine lv_iconst (v := 0) hx hb dX6_in_14 (by decide) ?_
  have hP9 := hP.sub (ws' := []) [] rfl
  have hD9 := hD.sub (ws' := []) [] (by decide) rfl
  have hpost : (fun (r : Int32) (u : Unit) => match u with | _ => r = 0) 0 () := by first | rfl | trivial
  exact W.zret (v := 0) hx hb hr (rfl) (fun t ht hW => ⟨⟨0, (), rfl, hpost, by rw [ht]; exact hP9, va_K.moved hW.alike hK, hD9⟩, hS.F ht⟩) hS.2.2 dX6_in_15
