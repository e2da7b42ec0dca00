abbrev q_X6_in_z34 (G : gG) (A : Nat → Prop) : Array Value → State → Outcome → State → Prop := va_Qi (fun (r : Int32) (u : Unit) => match u with | _ => r = 0) (fun (u : Unit) t => match u with | _ => va_P G.1 vwCl [] t.heap ∧ gK G t ∧ va_D A []) A
set_option maxHeartbeats 4000000 in
set_option maxRecDepth 100000 in
theorem c_X6_in_z34 (l : Launch) (G : gG) (sz : Nat) : Met l yX6_in wsX6_in ({ frames := 0, cells := 0, slots := 0, locals := 0 }) (gPre G [.int 59, .int 48, .int 57] [] sz) (q_X6_in_z34 G (va_A [] sz)) 0 0 (va_A [] sz) := by
  refine Met.ofW (cc := cX6_in) (maxL := 3) (ret := (some .boolean)) (by decide) rfl ?_
  intro p e s m args below meth c s₁ B hml hv
  obtain ⟨rfl, hsz, hP, hK, hD0⟩ := hv
  have hx := B.exec
  have hb := B.bytes
  have hr := B.returns
  have hts := atoms_spec (ws := wsX6_in) B.pre
  have hown : s.vm.findClass RX6 = some m.cls := findClass_of_methodNamed B.named
  have hlocks := B.notSynchronized
  subst hsz
  have hD := hD0.self (sz := s.heap.size)
  generalize hAe : va_A [] s.heap.size = A at hD ⊢
  have hA : ∀ q : Nat, s.heap.size ≤ q → A q := fun q h => by rw [← hAe]; exact Or.inr h
  have hS : va_S A s.heap s.heap [] := va_S.rf
  have hP : va_P G.1 vwCl [] s.heap := hP
  have hD : va_D A [] := hD
  have hl := lv_entry ([.int 59, .int 48, .int 57]) (n := 3) (Nat.le_of_ble_eq_true rfl)
  rw [lg_entry_eq]
  generalize (lg_sl ([.int 59, .int 48, .int 57]) ++ List.replicate (3 - (lg_sl ([.int 59, .int 48, .int 57])).length) Slot.unset).toArray = ls at hl ⊢
  have hl : lv_has ls 3 [(0, .int 59), (1, .int 48), (2, .int 57)] := hl
  refine lv_iload_n hx hb dX6_in_0 rfl (lv_at hl 0 rfl) ?_
  refine lv_iload_n hx hb dX6_in_1 rfl (lv_at hl 1 rfl) ?_
  refine lv_icmp_lt (tgt := 14) hx hb dX6_in_2 (by decide) (fun c_1 => ?_) (fun c_1 => ?_)
  · exact absurd c_1 (by decide)
  refine lv_iload_n hx hb dX6_in_5 rfl (lv_at hl 0 rfl) ?_
  refine lv_iload_n hx hb dX6_in_6 rfl (lv_at hl 2 rfl) ?_
  refine lv_icmp_gt (tgt := 14) hx hb dX6_in_7 (by decide) (fun c_2 => ?_) (fun c_2 => ?_)
  rotate_left
  · exact absurd (by decide) c_2
  refine lv_iconst (v := 0) hx hb dX6_in_14 (by decide) ?_
  have hP9 := hP.sub (ws' := []) [] rfl
  have hD9 := hD.sub (ws' := []) [] (by decide) rfl
  have hpost : (fun (r : Int32) (u : Unit) => match u with | _ => r = 0) 0 () := by first | rfl | trivial
  exact W.zret (v := 0) hx hb hr (rfl) (fun t ht hW => ⟨⟨0, (), rfl, hpost, by rw [ht]; exact hP9, va_K.moved hW.alike hK, hD9⟩, hS.F ht⟩) hS.2.2 dX6_in_15
abbrev q_X6_next_z32 (G : gG) (h0 tp wo kd mo st ro cd sr ir ih ss sq ce lw he sk na kp gb go fa ga vo : Nat) (A : Nat → Prop) : Array Value → State → Outcome → State → Prop := va_Qv (fun (u : Unit) => match u with | _ => True) (fun (u : Unit) t => match u with | _ => va_P G.1 vwCl [(tp, .inl (G.2.1, 160, .inl (gPf tB 40))), (wo, .inl (G.2.1, 96, .inl (gPf tW 96))), (h0, .inr (6, [.int 0, .ref kd, .ref mo, .ref st, .int 0, .ref ro, .ref tp, .int 40, .ref cd, .ref sr, .int 0, .int 0, .int 0, .ref ir, .ref ih, .ref ss, .ref sq, .ref ce, .ref lw, .int 20, .int 19, .int 59, .int 0, .ref wo, .ref he, .int 1, .int 0, .int 2, .ref sk, .ref na, .ref kp, .int 0, .int 0, .int 0, .int 0, .ref gb, .ref go, .ref fa, .ref ga, .int 0, .int 0, .ref vo]))] t.heap ∧ gK G t ∧ va_D A [(tp, .inl (G.2.1, 160, .inl (gPf tB 40))), (wo, .inl (G.2.1, 96, .inl (gPf tW 96))), (h0, .inr (6, [.int 0, .ref kd, .ref mo, .ref st, .int 0, .ref ro, .ref tp, .int 40, .ref cd, .ref sr, .int 0, .int 0, .int 0, .ref ir, .ref ih, .ref ss, .ref sq, .ref ce, .ref lw, .int 20, .int 19, .int 59, .int 0, .ref wo, .ref he, .int 1, .int 0, .int 2, .ref sk, .ref na, .ref kp, .int 0, .int 0, .int 0, .int 0, .ref gb, .ref go, .ref fa, .ref ga, .int 0, .int 0, .ref vo]))]) A
set_option maxHeartbeats 4000000 in
set_option maxRecDepth 100000 in
theorem c_X6_next_z32 (l : Launch) (G : gG) (h0 tp wo kd mo st ro cd sr ir ih ss sq ce lw he sk na kp gb go fa ga vo : Nat) (sz : Nat) : Met l yX6_next wsX6_next ({ frames := 1, cells := 0, slots := 0, locals := 22 }) (gPre G [.ref h0] [(tp, .inl (G.2.1, 160, .inl (gPf tB 40))), (wo, .inl (G.2.1, 96, .inl (gPf tW 96))), (h0, .inr (6, [.int 0, .ref kd, .ref mo, .ref st, .int 0, .ref ro, .ref tp, .int 40, .ref cd, .ref sr, .int 0, .int 0, .int 0, .ref ir, .ref ih, .ref ss, .ref sq, .ref ce, .ref lw, .int 18, .int 13, .int 2, .int 1, .ref wo, .ref he, .int 1, .int 0, .int 2, .ref sk, .ref na, .ref kp, .int 0, .int 0, .int 0, .int 0, .ref gb, .ref go, .ref fa, .ref ga, .int 0, .int 0, .ref vo]))] sz) (q_X6_next_z32 G h0 tp wo kd mo st ro cd sr ir ih ss sq ce lw he sk na kp gb go fa ga vo (va_A [(tp, .inl (G.2.1, 160, .inl (gPf tB 40))), (wo, .inl (G.2.1, 96, .inl (gPf tW 96))), (h0, .inr (6, [.int 0, .ref kd, .ref mo, .ref st, .int 0, .ref ro, .ref tp, .int 40, .ref cd, .ref sr, .int 0, .int 0, .int 0, .ref ir, .ref ih, .ref ss, .ref sq, .ref ce, .ref lw, .int 18, .int 13, .int 2, .int 1, .ref wo, .ref he, .int 1, .int 0, .int 2, .ref sk, .ref na, .ref kp, .int 0, .int 0, .int 0, .int 0, .ref gb, .ref go, .ref fa, .ref ga, .int 0, .int 0, .ref vo]))] sz)) 0 0 (va_A [(tp, .inl (G.2.1, 160, .inl (gPf tB 40))), (wo, .inl (G.2.1, 96, .inl (gPf tW 96))), (h0, .inr (6, [.int 0, .ref kd, .ref mo, .ref st, .int 0, .ref ro, .ref tp, .int 40, .ref cd, .ref sr, .int 0, .int 0, .int 0, .ref ir, .ref ih, .ref ss, .ref sq, .ref ce, .ref lw, .int 18, .int 13, .int 2, .int 1, .ref wo, .ref he, .int 1, .int 0, .int 2, .ref sk, .ref na, .ref kp, .int 0, .int 0, .int 0, .int 0, .ref gb, .ref go, .ref fa, .ref ga, .int 0, .int 0, .ref vo]))] sz) := by
  refine Met.ofW (cc := cX6_next) (maxL := 3) (ret := none) (by decide) rfl ?_
  intro p e s m args below meth c s₁ B hml hv
  obtain ⟨rfl, hsz, hP, hK, hD0⟩ := hv
  have hx := B.exec
  have hb := B.bytes
  have hr := B.returns
  have hts := atoms_spec (ws := wsX6_next) B.pre
  have hown : s.vm.findClass RX6 = some m.cls := findClass_of_methodNamed B.named
  have hlocks := B.notSynchronized
  subst hsz
  have hD := hD0.self (sz := s.heap.size)
  generalize hAe : va_A [(tp, .inl (G.2.1, 160, .inl (gPf tB 40))), (wo, .inl (G.2.1, 96, .inl (gPf tW 96))), (h0, .inr (6, [.int 0, .ref kd, .ref mo, .ref st, .int 0, .ref ro, .ref tp, .int 40, .ref cd, .ref sr, .int 0, .int 0, .int 0, .ref ir, .ref ih, .ref ss, .ref sq, .ref ce, .ref lw, .int 18, .int 13, .int 2, .int 1, .ref wo, .ref he, .int 1, .int 0, .int 2, .ref sk, .ref na, .ref kp, .int 0, .int 0, .int 0, .int 0, .ref gb, .ref go, .ref fa, .ref ga, .int 0, .int 0, .ref vo]))] s.heap.size = A at hD ⊢
  have hA : ∀ q : Nat, s.heap.size ≤ q → A q := fun q h => by rw [← hAe]; exact Or.inr h
  have hS : va_S A s.heap s.heap [] := va_S.rf
  have hP : va_P G.1 vwCl [(tp, .inl (G.2.1, 160, .inl (gPf tB 40))), (wo, .inl (G.2.1, 96, .inl (gPf tW 96))), (h0, .inr (6, [.int 0, .ref kd, .ref mo, .ref st, .int 0, .ref ro, .ref tp, .int 40, .ref cd, .ref sr, .int 0, .int 0, .int 0, .ref ir, .ref ih, .ref ss, .ref sq, .ref ce, .ref lw, .int 18, .int 13, .int 2, .int 1, .ref wo, .ref he, .int 1, .int 0, .int 2, .ref sk, .ref na, .ref kp, .int 0, .int 0, .int 0, .int 0, .ref gb, .ref go, .ref fa, .ref ga, .int 0, .int 0, .ref vo]))] s.heap := hP
  have hD : va_D A [(tp, .inl (G.2.1, 160, .inl (gPf tB 40))), (wo, .inl (G.2.1, 96, .inl (gPf tW 96))), (h0, .inr (6, [.int 0, .ref kd, .ref mo, .ref st, .int 0, .ref ro, .ref tp, .int 40, .ref cd, .ref sr, .int 0, .int 0, .int 0, .ref ir, .ref ih, .ref ss, .ref sq, .ref ce, .ref lw, .int 18, .int 13, .int 2, .int 1, .ref wo, .ref he, .int 1, .int 0, .int 2, .ref sk, .ref na, .ref kp, .int 0, .int 0, .int 0, .int 0, .ref gb, .ref go, .ref fa, .ref ga, .int 0, .int 0, .ref vo]))] := hD
  have hl := lv_entry ([.ref h0]) (n := 3) (Nat.le_of_ble_eq_true rfl)
  rw [lg_entry_eq]
  generalize (lg_sl ([.ref h0]) ++ List.replicate (3 - (lg_sl ([.ref h0])).length) Slot.unset).toArray = ls at hl ⊢
  have hl : lv_has ls 3 [(0, .ref h0)] := hl
  have kf111 := hts (.fieldLink RX6 111 "PebbleInShoeModel" "at" "I") (by decide +kernel)
  have hiX6 := (by decide +kernel : ∀ w ∈ wsX60, w ∈ wsX6_next)
  have kf80 := hts (.fieldLink RX6 80 "PebbleInShoeModel" "taped" "I") (by decide +kernel)
  have kf22 := hts (.fieldLink RX6 22 "PebbleInShoeModel" "tape" "[I") (by decide +kernel)
  have kf114 := hts (.fieldLink RX6 114 "PebbleInShoeModel" "begun" "I") (by decide +kernel)
  have kf117 := hts (.fieldLink RX6 117 "PebbleInShoeModel" "token" "I") (by decide +kernel)
  have kf120 := hts (.fieldLink RX6 120 "PebbleInShoeModel" "value" "I") (by decide +kernel)
  refine lv_aload_n hx hb dX6_next_0 rfl (lv_at hl 0 rfl) ?_
  refine va_get (D := G.1) (ci := 6) (v := .int 18) (C := RX6) (T := TX6) (N := 42) hx hb hts hiX6 hown hK hP 2 rfl rfl 19 (by decide) kf111 (fun _ h9 => h9) rfl dX6_next_1 ?_
  refine lv_aload_n hx hb dX6_next_4 rfl (lv_at hl 0 rfl) ?_
  refine va_get (D := G.1) (ci := 6) (v := .int 40) (C := RX6) (T := TX6) (N := 42) hx hb hts hiX6 hown hK hP 2 rfl rfl 7 (by decide) kf80 (fun _ h9 => h9) rfl dX6_next_5 ?_
  refine lv_icmp_ge (tgt := 52) hx hb dX6_next_8 (by decide) (fun c_1 => ?_) (fun c_1 => ?_)
  · exact absurd c_1 (by decide)
  refine lv_aload_n hx hb dX6_next_11 rfl (lv_at hl 0 rfl) ?_
  refine va_get (D := G.1) (ci := 6) (v := .ref tp) (C := RX6) (T := TX6) (N := 42) hx hb hts hiX6 hown hK hP 2 rfl rfl 6 (by decide) kf22 (fun _ h9 => h9) rfl dX6_next_12 ?_
  refine lv_aload_n hx hb dX6_next_15 rfl (lv_at hl 0 rfl) ?_
  refine va_get (D := G.1) (ci := 6) (v := .int 18) (C := RX6) (T := TX6) (N := 42) hx hb hts hiX6 hown hK hP 2 rfl rfl 19 (by decide) kf111 (fun _ h9 => h9) rfl dX6_next_16 ?_
  refine va_iald (D := G.1) hx hb hK hP 0 0 rfl rfl (i := 18) (gIn (by decide)) dX6_next_19 ?_
  refine lv_topi (fun v_2 ev_2 => ?_)
  have ev_2 : v_2 = 32 := ev_2.trans (by decide)
  subst ev_2
  refine lv_bipush (v := 32) hx hb dX6_next_20 (by decide) ?_
  refine lv_icmp_eq (tgt := 39) hx hb dX6_next_22 (by decide) (fun c_3 => ?_) (fun c_3 => ?_)
  rotate_left
  · exact absurd (by decide) c_3
  refine lv_aload_n hx hb dX6_next_39 rfl (lv_at hl 0 rfl) ?_
  refine lv_dup hx hb dX6_next_40 rfl ?_
  refine va_get (D := G.1) (ci := 6) (v := .int 18) (C := RX6) (T := TX6) (N := 42) hx hb hts hiX6 hown hK hP 2 rfl rfl 19 (by decide) kf111 (fun _ h9 => h9) rfl dX6_next_41 ?_
  refine lv_iconst (v := 1) hx hb dX6_next_44 (by decide) ?_
  refine lv_iadd hx hb dX6_next_45 ?_
  refine lv_topi (fun v_4 ev_4 => ?_)
  have ev_4 : v_4 = 19 := ev_4.trans (by decide)
  subst ev_4
  refine va_put (D := G.1) (ci := 6) (v := .int 19) (ty := .int) (C := RX6) (T := TX6) (N := 42) hx hb hts hiX6 tyX6 tyX6_ok nmX6 hown hK hP hD hS 2 rfl rfl 19 (by decide) kf111 (fun _ h9 => h9) rfl (by decide +kernel) rfl rfl (Nat.le_of_ble_eq_true rfl) dX6_next_46 (fun H locs hP hD hS => ?_)
  have hP : va_P G.1 vwCl [(tp, .inl (G.2.1, 160, .inl (gPf tB 40))), (wo, .inl (G.2.1, 96, .inl (gPf tW 96))), (h0, .inr (6, [.int 0, .ref kd, .ref mo, .ref st, .int 0, .ref ro, .ref tp, .int 40, .ref cd, .ref sr, .int 0, .int 0, .int 0, .ref ir, .ref ih, .ref ss, .ref sq, .ref ce, .ref lw, .int 19, .int 13, .int 2, .int 1, .ref wo, .ref he, .int 1, .int 0, .int 2, .ref sk, .ref na, .ref kp, .int 0, .int 0, .int 0, .int 0, .ref gb, .ref go, .ref fa, .ref ga, .int 0, .int 0, .ref vo]))] H := hP
  have hD : va_D A [(tp, .inl (G.2.1, 160, .inl (gPf tB 40))), (wo, .inl (G.2.1, 96, .inl (gPf tW 96))), (h0, .inr (6, [.int 0, .ref kd, .ref mo, .ref st, .int 0, .ref ro, .ref tp, .int 40, .ref cd, .ref sr, .int 0, .int 0, .int 0, .ref ir, .ref ih, .ref ss, .ref sq, .ref ce, .ref lw, .int 19, .int 13, .int 2, .int 1, .ref wo, .ref he, .int 1, .int 0, .int 2, .ref sk, .ref na, .ref kp, .int 0, .int 0, .int 0, .int 0, .ref gb, .ref go, .ref fa, .ref ga, .int 0, .int 0, .ref vo]))] := hD
  refine lv_goto (tgt := 0) hx hb dX6_next_49 (by decide) ?_
  refine lv_aload_n hx hb dX6_next_0 rfl (lv_at hl 0 rfl) ?_
  refine va_get (D := G.1) (ci := 6) (v := .int 19) (C := RX6) (T := TX6) (N := 42) hx hb hts hiX6 hown hK hP 2 rfl rfl 19 (by decide) kf111 (fun _ h9 => h9) rfl dX6_next_1 ?_
  refine lv_aload_n hx hb dX6_next_4 rfl (lv_at hl 0 rfl) ?_
  refine va_get (D := G.1) (ci := 6) (v := .int 40) (C := RX6) (T := TX6) (N := 42) hx hb hts hiX6 hown hK hP 2 rfl rfl 7 (by decide) kf80 (fun _ h9 => h9) rfl dX6_next_5 ?_
  refine lv_icmp_ge (tgt := 52) hx hb dX6_next_8 (by decide) (fun c_5 => ?_) (fun c_5 => ?_)
  · exact absurd c_5 (by decide)
  refine lv_aload_n hx hb dX6_next_11 rfl (lv_at hl 0 rfl) ?_
  refine va_get (D := G.1) (ci := 6) (v := .ref tp) (C := RX6) (T := TX6) (N := 42) hx hb hts hiX6 hown hK hP 2 rfl rfl 6 (by decide) kf22 (fun _ h9 => h9) rfl dX6_next_12 ?_
  refine lv_aload_n hx hb dX6_next_15 rfl (lv_at hl 0 rfl) ?_
  refine va_get (D := G.1) (ci := 6) (v := .int 19) (C := RX6) (T := TX6) (N := 42) hx hb hts hiX6 hown hK hP 2 rfl rfl 19 (by decide) kf111 (fun _ h9 => h9) rfl dX6_next_16 ?_
  refine va_iald (D := G.1) hx hb hK hP 0 0 rfl rfl (i := 19) (gIn (by decide)) dX6_next_19 ?_
  refine lv_topi (fun v_6 ev_6 => ?_)
  have ev_6 : v_6 = 59 := ev_6.trans (by decide)
  subst ev_6
  refine lv_bipush (v := 32) hx hb dX6_next_20 (by decide) ?_
  refine lv_icmp_eq (tgt := 39) hx hb dX6_next_22 (by decide) (fun c_7 => ?_) (fun c_7 => ?_)
  · exact absurd c_7 (by decide)
  refine lv_aload_n hx hb dX6_next_25 rfl (lv_at hl 0 rfl) ?_
  refine va_get (D := G.1) (ci := 6) (v := .ref tp) (C := RX6) (T := TX6) (N := 42) hx hb hts hiX6 hown hK hP 2 rfl rfl 6 (by decide) kf22 (fun _ h9 => h9) rfl dX6_next_26 ?_
  refine lv_aload_n hx hb dX6_next_29 rfl (lv_at hl 0 rfl) ?_
  refine va_get (D := G.1) (ci := 6) (v := .int 19) (C := RX6) (T := TX6) (N := 42) hx hb hts hiX6 hown hK hP 2 rfl rfl 19 (by decide) kf111 (fun _ h9 => h9) rfl dX6_next_30 ?_
  refine va_iald (D := G.1) hx hb hK hP 0 0 rfl rfl (i := 19) (gIn (by decide)) dX6_next_33 ?_
  refine lv_topi (fun v_8 ev_8 => ?_)
  have ev_8 : v_8 = 59 := ev_8.trans (by decide)
  subst ev_8
  refine lv_bipush (v := 10) hx hb dX6_next_34 (by decide) ?_
  refine lv_icmp_ne (tgt := 52) hx hb dX6_next_36 (by decide) (fun c_9 => ?_) (fun c_9 => ?_)
  rotate_left
  · exact absurd c_9 (by decide)
  refine lv_aload_n hx hb dX6_next_52 rfl (lv_at hl 0 rfl) ?_
  refine lv_aload_n hx hb dX6_next_53 rfl (lv_at hl 0 rfl) ?_
  refine va_get (D := G.1) (ci := 6) (v := .int 19) (C := RX6) (T := TX6) (N := 42) hx hb hts hiX6 hown hK hP 2 rfl rfl 19 (by decide) kf111 (fun _ h9 => h9) rfl dX6_next_54 ?_
  refine va_put (D := G.1) (ci := 6) (v := .int 19) (ty := .int) (C := RX6) (T := TX6) (N := 42) hx hb hts hiX6 tyX6 tyX6_ok nmX6 hown hK hP hD hS 2 rfl rfl 20 (by decide) kf114 (fun _ h9 => h9) rfl (by decide +kernel) rfl rfl (Nat.le_of_ble_eq_true rfl) dX6_next_57 (fun H locs hP hD hS => ?_)
  have hP : va_P G.1 vwCl [(tp, .inl (G.2.1, 160, .inl (gPf tB 40))), (wo, .inl (G.2.1, 96, .inl (gPf tW 96))), (h0, .inr (6, [.int 0, .ref kd, .ref mo, .ref st, .int 0, .ref ro, .ref tp, .int 40, .ref cd, .ref sr, .int 0, .int 0, .int 0, .ref ir, .ref ih, .ref ss, .ref sq, .ref ce, .ref lw, .int 19, .int 19, .int 2, .int 1, .ref wo, .ref he, .int 1, .int 0, .int 2, .ref sk, .ref na, .ref kp, .int 0, .int 0, .int 0, .int 0, .ref gb, .ref go, .ref fa, .ref ga, .int 0, .int 0, .ref vo]))] H := hP
  have hD : va_D A [(tp, .inl (G.2.1, 160, .inl (gPf tB 40))), (wo, .inl (G.2.1, 96, .inl (gPf tW 96))), (h0, .inr (6, [.int 0, .ref kd, .ref mo, .ref st, .int 0, .ref ro, .ref tp, .int 40, .ref cd, .ref sr, .int 0, .int 0, .int 0, .ref ir, .ref ih, .ref ss, .ref sq, .ref ce, .ref lw, .int 19, .int 19, .int 2, .int 1, .ref wo, .ref he, .int 1, .int 0, .int 2, .ref sk, .ref na, .ref kp, .int 0, .int 0, .int 0, .int 0, .ref gb, .ref go, .ref fa, .ref ga, .int 0, .int 0, .ref vo]))] := hD
  refine lv_aload_n hx hb dX6_next_60 rfl (lv_at hl 0 rfl) ?_
  refine lv_iconst (v := 0) hx hb dX6_next_61 (by decide) ?_
  refine va_put (D := G.1) (ci := 6) (v := .int 0) (ty := .int) (C := RX6) (T := TX6) (N := 42) hx hb hts hiX6 tyX6 tyX6_ok nmX6 hown hK hP hD hS 2 rfl rfl 21 (by decide) kf117 (fun _ h9 => h9) rfl (by decide +kernel) rfl rfl (Nat.le_of_ble_eq_true rfl) dX6_next_62 (fun H locs hP hD hS => ?_)
  have hP : va_P G.1 vwCl [(tp, .inl (G.2.1, 160, .inl (gPf tB 40))), (wo, .inl (G.2.1, 96, .inl (gPf tW 96))), (h0, .inr (6, [.int 0, .ref kd, .ref mo, .ref st, .int 0, .ref ro, .ref tp, .int 40, .ref cd, .ref sr, .int 0, .int 0, .int 0, .ref ir, .ref ih, .ref ss, .ref sq, .ref ce, .ref lw, .int 19, .int 19, .int 0, .int 1, .ref wo, .ref he, .int 1, .int 0, .int 2, .ref sk, .ref na, .ref kp, .int 0, .int 0, .int 0, .int 0, .ref gb, .ref go, .ref fa, .ref ga, .int 0, .int 0, .ref vo]))] H := hP
  have hD : va_D A [(tp, .inl (G.2.1, 160, .inl (gPf tB 40))), (wo, .inl (G.2.1, 96, .inl (gPf tW 96))), (h0, .inr (6, [.int 0, .ref kd, .ref mo, .ref st, .int 0, .ref ro, .ref tp, .int 40, .ref cd, .ref sr, .int 0, .int 0, .int 0, .ref ir, .ref ih, .ref ss, .ref sq, .ref ce, .ref lw, .int 19, .int 19, .int 0, .int 1, .ref wo, .ref he, .int 1, .int 0, .int 2, .ref sk, .ref na, .ref kp, .int 0, .int 0, .int 0, .int 0, .ref gb, .ref go, .ref fa, .ref ga, .int 0, .int 0, .ref vo]))] := hD
  refine lv_aload_n hx hb dX6_next_65 rfl (lv_at hl 0 rfl) ?_
  refine lv_iconst (v := 0) hx hb dX6_next_66 (by decide) ?_
  refine va_put (D := G.1) (ci := 6) (v := .int 0) (ty := .int) (C := RX6) (T := TX6) (N := 42) hx hb hts hiX6 tyX6 tyX6_ok nmX6 hown hK hP hD hS 2 rfl rfl 22 (by decide) kf120 (fun _ h9 => h9) rfl (by decide +kernel) rfl rfl (Nat.le_of_ble_eq_true rfl) dX6_next_67 (fun H locs hP hD hS => ?_)
  have hP : va_P G.1 vwCl [(tp, .inl (G.2.1, 160, .inl (gPf tB 40))), (wo, .inl (G.2.1, 96, .inl (gPf tW 96))), (h0, .inr (6, [.int 0, .ref kd, .ref mo, .ref st, .int 0, .ref ro, .ref tp, .int 40, .ref cd, .ref sr, .int 0, .int 0, .int 0, .ref ir, .ref ih, .ref ss, .ref sq, .ref ce, .ref lw, .int 19, .int 19, .int 0, .int 0, .ref wo, .ref he, .int 1, .int 0, .int 2, .ref sk, .ref na, .ref kp, .int 0, .int 0, .int 0, .int 0, .ref gb, .ref go, .ref fa, .ref ga, .int 0, .int 0, .ref vo]))] H := hP
  have hD : va_D A [(tp, .inl (G.2.1, 160, .inl (gPf tB 40))), (wo, .inl (G.2.1, 96, .inl (gPf tW 96))), (h0, .inr (6, [.int 0, .ref kd, .ref mo, .ref st, .int 0, .ref ro, .ref tp, .int 40, .ref cd, .ref sr, .int 0, .int 0, .int 0, .ref ir, .ref ih, .ref ss, .ref sq, .ref ce, .ref lw, .int 19, .int 19, .int 0, .int 0, .ref wo, .ref he, .int 1, .int 0, .int 2, .ref sk, .ref na, .ref kp, .int 0, .int 0, .int 0, .int 0, .ref gb, .ref go, .ref fa, .ref ga, .int 0, .int 0, .ref vo]))] := hD
  refine lv_aload_n hx hb dX6_next_70 rfl (lv_at hl 0 rfl) ?_
  refine va_get (D := G.1) (ci := 6) (v := .int 19) (C := RX6) (T := TX6) (N := 42) hx hb hts hiX6 hown hK hP 2 rfl rfl 19 (by decide) kf111 (fun _ h9 => h9) rfl dX6_next_71 ?_
  refine lv_aload_n hx hb dX6_next_74 rfl (lv_at hl 0 rfl) ?_
  refine va_get (D := G.1) (ci := 6) (v := .int 40) (C := RX6) (T := TX6) (N := 42) hx hb hts hiX6 hown hK hP 2 rfl rfl 7 (by decide) kf80 (fun _ h9 => h9) rfl dX6_next_75 ?_
  refine lv_icmp_ne (tgt := 82) hx hb dX6_next_78 (by decide) (fun c_10 => ?_) (fun c_10 => ?_)
  rotate_left
  · exact absurd c_10 (by decide)
  refine lv_aload_n hx hb dX6_next_82 rfl (lv_at hl 0 rfl) ?_
  refine va_get (D := G.1) (ci := 6) (v := .ref tp) (C := RX6) (T := TX6) (N := 42) hx hb hts hiX6 hown hK hP 2 rfl rfl 6 (by decide) kf22 (fun _ h9 => h9) rfl dX6_next_83 ?_
  refine lv_aload_n hx hb dX6_next_86 rfl (lv_at hl 0 rfl) ?_
  refine va_get (D := G.1) (ci := 6) (v := .int 19) (C := RX6) (T := TX6) (N := 42) hx hb hts hiX6 hown hK hP 2 rfl rfl 19 (by decide) kf111 (fun _ h9 => h9) rfl dX6_next_87 ?_
  refine va_iald (D := G.1) hx hb hK hP 0 0 rfl rfl (i := 19) (gIn (by decide)) dX6_next_90 ?_
  refine lv_topi (fun v_11 ev_11 => ?_)
  have ev_11 : v_11 = 59 := ev_11.trans (by decide)
  subst ev_11
  refine lv_istore_n (lv' := [(1, .int 59), (0, .ref h0)]) hx hb dX6_next_91 rfl hl (by decide) rfl (fun ls hl => ?_)
  refine lv_iload_n hx hb dX6_next_92 rfl (lv_at hl 0 rfl) ?_
  refine lv_bipush (v := 97) hx hb dX6_next_93 (by decide) ?_
  refine lv_bipush (v := 122) hx hb dX6_next_95 (by decide) ?_
  have hPc : va_P G.1 vwCl [] H := hP.sub [] rfl
  have hDc : va_D A [] := hD.sub [] (by decide) rfl
  have hFc := va_free (wc := []) hD hS hA [] rfl
  refine va_calli (va_runS (As := [.int 59, .int 97, .int 122]) (rest := []) ⟨hx, hb, hml, hown, hts⟩ (c_X6_in_z33 l G H.size) (va_cwS 3 hts gX6_next_X6_in rfl rfl rfl (by decide +kernel) ⟨Nat.le_of_ble_eq_true rfl, Nat.le_of_ble_eq_true rfl⟩) ⟨gPre_blind, fun U hU hW => gPre_of hU hW hK hPc hDc⟩ rfl rfl hl.1 rfl (lv_room (Nat.le_of_ble_eq_true rfl)) dX6_next_97 ⟨Nat.le_of_ble_eq_true rfl, Nat.le_of_ble_eq_true rfl⟩) hS (fun q _ h => hFc q h) hFc (fun r_12 u t H locs ht hvm w_13 hB hz1 hk1 hS => ?_)
  obtain ⟨hP1, hK1, hD1⟩ := hB
  rw [ht] at hP1
  have hP1 : va_P G.1 vwCl [] H := hP1
  have hD1 : va_D (va_A [] _) [] := hD1
  have w_13 : r_12 = 0 := w_13
  obtain ⟨hP, hD⟩ := va_join (wr := [(tp, .inl (G.2.1, 160, .inl (gPf tB 40))), (wo, .inl (G.2.1, 96, .inl (gPf tW 96))), (h0, .inr (6, [.int 0, .ref kd, .ref mo, .ref st, .int 0, .ref ro, .ref tp, .int 40, .ref cd, .ref sr, .int 0, .int 0, .int 0, .ref ir, .ref ih, .ref ss, .ref sq, .ref ce, .ref lw, .int 19, .int 19, .int 0, .int 0, .ref wo, .ref he, .int 1, .int 0, .int 2, .ref sk, .ref na, .ref kp, .int 0, .int 0, .int 0, .int 0, .ref gb, .ref go, .ref fa, .ref ga, .int 0, .int 0, .ref vo]))]) (w1 := []) hP hD [] [0, 1, 2] rfl rfl (by decide) (by decide) hk1 hFc hP1 hD1
  have hP : va_P G.1 vwCl [(tp, .inl (G.2.1, 160, .inl (gPf tB 40))), (wo, .inl (G.2.1, 96, .inl (gPf tW 96))), (h0, .inr (6, [.int 0, .ref kd, .ref mo, .ref st, .int 0, .ref ro, .ref tp, .int 40, .ref cd, .ref sr, .int 0, .int 0, .int 0, .ref ir, .ref ih, .ref ss, .ref sq, .ref ce, .ref lw, .int 19, .int 19, .int 0, .int 0, .ref wo, .ref he, .int 1, .int 0, .int 2, .ref sk, .ref na, .ref kp, .int 0, .int 0, .int 0, .int 0, .ref gb, .ref go, .ref fa, .ref ga, .int 0, .int 0, .ref vo]))] H := hP
  have hD : va_D A [(tp, .inl (G.2.1, 160, .inl (gPf tB 40))), (wo, .inl (G.2.1, 96, .inl (gPf tW 96))), (h0, .inr (6, [.int 0, .ref kd, .ref mo, .ref st, .int 0, .ref ro, .ref tp, .int 40, .ref cd, .ref sr, .int 0, .int 0, .int 0, .ref ir, .ref ih, .ref ss, .ref sq, .ref ce, .ref lw, .int 19, .int 19, .int 0, .int 0, .ref wo, .ref he, .int 1, .int 0, .int 2, .ref sk, .ref na, .ref kp, .int 0, .int 0, .int 0, .int 0, .ref gb, .ref go, .ref fa, .ref ga, .int 0, .int 0, .ref vo]))] := hD
  have w_13 : r_12 = 0 := w_13
  subst w_13
  refine lv_if_eq (tgt := 217) hx hb dX6_next_100 (by decide) (fun c_14 => ?_) (fun c_14 => ?_)
  rotate_left
  · exact absurd (by decide) c_14
  refine lv_iload_n hx hb dX6_next_217 rfl (lv_at hl 0 rfl) ?_
  refine lv_bipush (v := 48) hx hb dX6_next_218 (by decide) ?_
  refine lv_bipush (v := 57) hx hb dX6_next_220 (by decide) ?_
  have hPc : va_P G.1 vwCl [] H := hP.sub [] rfl
  have hDc : va_D A [] := hD.sub [] (by decide) rfl
  have hFc := va_free (wc := []) hD hS hA [] rfl
  refine va_calli (va_runS (As := [.int 59, .int 48, .int 57]) (rest := []) ⟨hx, hb, hml, hown, hts⟩ (c_X6_in_z34 l G H.size) (va_cwS 3 hts gX6_next_X6_in rfl rfl rfl (by decide +kernel) ⟨Nat.le_of_ble_eq_true rfl, Nat.le_of_ble_eq_true rfl⟩) ⟨gPre_blind, fun U hU hW => gPre_of hU hW hK hPc hDc⟩ rfl rfl hl.1 rfl (lv_room (Nat.le_of_ble_eq_true rfl)) dX6_next_222 ⟨Nat.le_of_ble_eq_true rfl, Nat.le_of_ble_eq_true rfl⟩) hS (fun q _ h => hFc q h) hFc (fun r_15 u t H locs ht hvm w_16 hB hz1 hk1 hS => ?_)
  obtain ⟨hP1, hK1, hD1⟩ := hB
  rw [ht] at hP1
  have hP1 : va_P G.1 vwCl [] H := hP1
  have hD1 : va_D (va_A [] _) [] := hD1
  have w_16 : r_15 = 0 := w_16
  obtain ⟨hP, hD⟩ := va_join (wr := [(tp, .inl (G.2.1, 160, .inl (gPf tB 40))), (wo, .inl (G.2.1, 96, .inl (gPf tW 96))), (h0, .inr (6, [.int 0, .ref kd, .ref mo, .ref st, .int 0, .ref ro, .ref tp, .int 40, .ref cd, .ref sr, .int 0, .int 0, .int 0, .ref ir, .ref ih, .ref ss, .ref sq, .ref ce, .ref lw, .int 19, .int 19, .int 0, .int 0, .ref wo, .ref he, .int 1, .int 0, .int 2, .ref sk, .ref na, .ref kp, .int 0, .int 0, .int 0, .int 0, .ref gb, .ref go, .ref fa, .ref ga, .int 0, .int 0, .ref vo]))]) (w1 := []) hP hD [] [0, 1, 2] rfl rfl (by decide) (by decide) hk1 hFc hP1 hD1
  have hP : va_P G.1 vwCl [(tp, .inl (G.2.1, 160, .inl (gPf tB 40))), (wo, .inl (G.2.1, 96, .inl (gPf tW 96))), (h0, .inr (6, [.int 0, .ref kd, .ref mo, .ref st, .int 0, .ref ro, .ref tp, .int 40, .ref cd, .ref sr, .int 0, .int 0, .int 0, .ref ir, .ref ih, .ref ss, .ref sq, .ref ce, .ref lw, .int 19, .int 19, .int 0, .int 0, .ref wo, .ref he, .int 1, .int 0, .int 2, .ref sk, .ref na, .ref kp, .int 0, .int 0, .int 0, .int 0, .ref gb, .ref go, .ref fa, .ref ga, .int 0, .int 0, .ref vo]))] H := hP
  have hD : va_D A [(tp, .inl (G.2.1, 160, .inl (gPf tB 40))), (wo, .inl (G.2.1, 96, .inl (gPf tW 96))), (h0, .inr (6, [.int 0, .ref kd, .ref mo, .ref st, .int 0, .ref ro, .ref tp, .int 40, .ref cd, .ref sr, .int 0, .int 0, .int 0, .ref ir, .ref ih, .ref ss, .ref sq, .ref ce, .ref lw, .int 19, .int 19, .int 0, .int 0, .ref wo, .ref he, .int 1, .int 0, .int 2, .ref sk, .ref na, .ref kp, .int 0, .int 0, .int 0, .int 0, .ref gb, .ref go, .ref fa, .ref ga, .int 0, .int 0, .ref vo]))] := hD
  have w_16 : r_15 = 0 := w_16
  subst w_16
  refine lv_if_eq (tgt := 326) hx hb dX6_next_225 (by decide) (fun c_17 => ?_) (fun c_17 => ?_)
  rotate_left
  · exact absurd (by decide) c_17
  refine lv_iload_n hx hb dX6_next_326 rfl (lv_at hl 0 rfl) ?_
  refine lv_bipush (v := 40) hx hb dX6_next_327 (by decide) ?_
  refine lv_icmp_eq (tgt := 374) hx hb dX6_next_329 (by decide) (fun c_18 => ?_) (fun c_18 => ?_)
  · exact absurd c_18 (by decide)
  refine lv_iload_n hx hb dX6_next_332 rfl (lv_at hl 0 rfl) ?_
  refine lv_bipush (v := 41) hx hb dX6_next_333 (by decide) ?_
  refine lv_icmp_eq (tgt := 374) hx hb dX6_next_335 (by decide) (fun c_19 => ?_) (fun c_19 => ?_)
  · exact absurd c_19 (by decide)
  refine lv_iload_n hx hb dX6_next_338 rfl (lv_at hl 0 rfl) ?_
  refine lv_bipush (v := 59) hx hb dX6_next_339 (by decide) ?_
  refine lv_icmp_eq (tgt := 374) hx hb dX6_next_341 (by decide) (fun c_20 => ?_) (fun c_20 => ?_)
  rotate_left
  · exact absurd (by decide) c_20
  refine lv_iconst (v := 1) hx hb dX6_next_374 (by decide) ?_
  refine lv_goto (tgt := 379) hx hb dX6_next_375 (by decide) ?_
  refine lv_istore_n (lv' := [(2, .int 1), (1, .int 59), (0, .ref h0)]) hx hb dX6_next_379 rfl hl (by decide) rfl (fun ls hl => ?_)
  refine lv_aload_n hx hb dX6_next_380 rfl (lv_at hl 2 rfl) ?_
  refine lv_iload_n hx hb dX6_next_381 rfl (lv_at hl 0 rfl) ?_
  refine lv_if_eq (tgt := 389) hx hb dX6_next_382 (by decide) (fun c_21 => ?_) (fun c_21 => ?_)
  · exact absurd c_21 (by decide)
  refine lv_iload_n hx hb dX6_next_385 rfl (lv_at hl 1 rfl) ?_
  refine lv_goto (tgt := 390) hx hb dX6_next_386 (by decide) ?_
  refine va_put (D := G.1) (ci := 6) (v := .int 59) (ty := .int) (C := RX6) (T := TX6) (N := 42) hx hb hts hiX6 tyX6 tyX6_ok nmX6 hown hK hP hD hS 2 rfl rfl 21 (by decide) kf117 (fun _ h9 => h9) rfl (by decide +kernel) rfl rfl (Nat.le_of_ble_eq_true rfl) dX6_next_390 (fun H locs hP hD hS => ?_)
  have hP : va_P G.1 vwCl [(tp, .inl (G.2.1, 160, .inl (gPf tB 40))), (wo, .inl (G.2.1, 96, .inl (gPf tW 96))), (h0, .inr (6, [.int 0, .ref kd, .ref mo, .ref st, .int 0, .ref ro, .ref tp, .int 40, .ref cd, .ref sr, .int 0, .int 0, .int 0, .ref ir, .ref ih, .ref ss, .ref sq, .ref ce, .ref lw, .int 19, .int 19, .int 59, .int 0, .ref wo, .ref he, .int 1, .int 0, .int 2, .ref sk, .ref na, .ref kp, .int 0, .int 0, .int 0, .int 0, .ref gb, .ref go, .ref fa, .ref ga, .int 0, .int 0, .ref vo]))] H := hP
  have hD : va_D A [(tp, .inl (G.2.1, 160, .inl (gPf tB 40))), (wo, .inl (G.2.1, 96, .inl (gPf tW 96))), (h0, .inr (6, [.int 0, .ref kd, .ref mo, .ref st, .int 0, .ref ro, .ref tp, .int 40, .ref cd, .ref sr, .int 0, .int 0, .int 0, .ref ir, .ref ih, .ref ss, .ref sq, .ref ce, .ref lw, .int 19, .int 19, .int 59, .int 0, .ref wo, .ref he, .int 1, .int 0, .int 2, .ref sk, .ref na, .ref kp, .int 0, .int 0, .int 0, .int 0, .ref gb, .ref go, .ref fa, .ref ga, .int 0, .int 0, .ref vo]))] := hD
  refine lv_aload_n hx hb dX6_next_393 rfl (lv_at hl 2 rfl) ?_
  refine lv_dup hx hb dX6_next_394 rfl ?_
  refine va_get (D := G.1) (ci := 6) (v := .int 19) (C := RX6) (T := TX6) (N := 42) hx hb hts hiX6 hown hK hP 2 rfl rfl 19 (by decide) kf111 (fun _ h9 => h9) rfl dX6_next_395 ?_
  refine lv_iconst (v := 1) hx hb dX6_next_398 (by decide) ?_
  refine lv_iadd hx hb dX6_next_399 ?_
  refine lv_topi (fun v_22 ev_22 => ?_)
  have ev_22 : v_22 = 20 := ev_22.trans (by decide)
  subst ev_22
  refine va_put (D := G.1) (ci := 6) (v := .int 20) (ty := .int) (C := RX6) (T := TX6) (N := 42) hx hb hts hiX6 tyX6 tyX6_ok nmX6 hown hK hP hD hS 2 rfl rfl 19 (by decide) kf111 (fun _ h9 => h9) rfl (by decide +kernel) rfl rfl (Nat.le_of_ble_eq_true rfl) dX6_next_400 (fun H locs hP hD hS => ?_)
  have hP : va_P G.1 vwCl [(tp, .inl (G.2.1, 160, .inl (gPf tB 40))), (wo, .inl (G.2.1, 96, .inl (gPf tW 96))), (h0, .inr (6, [.int 0, .ref kd, .ref mo, .ref st, .int 0, .ref ro, .ref tp, .int 40, .ref cd, .ref sr, .int 0, .int 0, .int 0, .ref ir, .ref ih, .ref ss, .ref sq, .ref ce, .ref lw, .int 20, .int 19, .int 59, .int 0, .ref wo, .ref he, .int 1, .int 0, .int 2, .ref sk, .ref na, .ref kp, .int 0, .int 0, .int 0, .int 0, .ref gb, .ref go, .ref fa, .ref ga, .int 0, .int 0, .ref vo]))] H := hP
  have hD : va_D A [(tp, .inl (G.2.1, 160, .inl (gPf tB 40))), (wo, .inl (G.2.1, 96, .inl (gPf tW 96))), (h0, .inr (6, [.int 0, .ref kd, .ref mo, .ref st, .int 0, .ref ro, .ref tp, .int 40, .ref cd, .ref sr, .int 0, .int 0, .int 0, .ref ir, .ref ih, .ref ss, .ref sq, .ref ce, .ref lw, .int 20, .int 19, .int 59, .int 0, .ref wo, .ref he, .int 1, .int 0, .int 2, .ref sk, .ref na, .ref kp, .int 0, .int 0, .int 0, .int 0, .ref gb, .ref go, .ref fa, .ref ga, .int 0, .int 0, .ref vo]))] := hD
  have hP9 := hP.sub (ws' := [(tp, .inl (G.2.1, 160, .inl (gPf tB 40))), (wo, .inl (G.2.1, 96, .inl (gPf tW 96))), (h0, .inr (6, [.int 0, .ref kd, .ref mo, .ref st, .int 0, .ref ro, .ref tp, .int 40, .ref cd, .ref sr, .int 0, .int 0, .int 0, .ref ir, .ref ih, .ref ss, .ref sq, .ref ce, .ref lw, .int 20, .int 19, .int 59, .int 0, .ref wo, .ref he, .int 1, .int 0, .int 2, .ref sk, .ref na, .ref kp, .int 0, .int 0, .int 0, .int 0, .ref gb, .ref go, .ref fa, .ref ga, .int 0, .int 0, .ref vo]))]) [0, 1, 2] rfl
  have hD9 := hD.sub (ws' := [(tp, .inl (G.2.1, 160, .inl (gPf tB 40))), (wo, .inl (G.2.1, 96, .inl (gPf tW 96))), (h0, .inr (6, [.int 0, .ref kd, .ref mo, .ref st, .int 0, .ref ro, .ref tp, .int 40, .ref cd, .ref sr, .int 0, .int 0, .int 0, .ref ir, .ref ih, .ref ss, .ref sq, .ref ce, .ref lw, .int 20, .int 19, .int 59, .int 0, .ref wo, .ref he, .int 1, .int 0, .int 2, .ref sk, .ref na, .ref kp, .int 0, .int 0, .int 0, .int 0, .ref gb, .ref go, .ref fa, .ref ga, .int 0, .int 0, .ref vo]))]) [0, 1, 2] (by decide) rfl
  have hpost : (fun (u : Unit) => match u with | _ => True) () := by first | rfl | trivial
  exact W.vret hx hb hr (fun t ht hW => ⟨⟨(), rfl, hpost, by rw [ht]; exact hP9, va_K.moved hW.alike hK, hD9⟩, hS.F ht⟩) hS.2.2 dX6_next_403
abbrev q_X6_puts_z36 (G : gG) (h0 cd kd mo st ro tp sr ir ih ss sq ce lw wo he sk na kp gb go fa ga vo : Nat) (A : Nat → Prop) : Array Value → State → Outcome → State → Prop := va_Qv (fun (u : Unit) => match u with | _ => True) (fun (u : Unit) t => match u with | _ => va_P G.1 vwCl [(cd, .inl (G.2.1, 1200, .inl (upd (upd (upd (fun _ => 0) 0 0) 1 1) 2 17))), (h0, .inr (6, [.int 0, .ref kd, .ref mo, .ref st, .int 0, .ref ro, .ref tp, .int 40, .ref cd, .ref sr, .int 0, .int 0, .int 0, .ref ir, .ref ih, .ref ss, .ref sq, .ref ce, .ref lw, .int 20, .int 19, .int 59, .int 0, .ref wo, .ref he, .int 0, .int 0, .int 3, .ref sk, .ref na, .ref kp, .int 0, .int 0, .int 0, .int 0, .ref gb, .ref go, .ref fa, .ref ga, .int 0, .int 0, .ref vo]))] t.heap ∧ gK G t ∧ va_D A [(cd, .inl (G.2.1, 1200, .inl (upd (upd (upd (fun _ => 0) 0 0) 1 1) 2 17))), (h0, .inr (6, [.int 0, .ref kd, .ref mo, .ref st, .int 0, .ref ro, .ref tp, .int 40, .ref cd, .ref sr, .int 0, .int 0, .int 0, .ref ir, .ref ih, .ref ss, .ref sq, .ref ce, .ref lw, .int 20, .int 19, .int 59, .int 0, .ref wo, .ref he, .int 0, .int 0, .int 3, .ref sk, .ref na, .ref kp, .int 0, .int 0, .int 0, .int 0, .ref gb, .ref go, .ref fa, .ref ga, .int 0, .int 0, .ref vo]))]) A
set_option maxHeartbeats 4000000 in
set_option maxRecDepth 100000 in
theorem c_X6_puts_z36 (l : Launch) (G : gG) (h0 cd kd mo st ro tp sr ir ih ss sq ce lw wo he sk na kp gb go fa ga vo : Nat) (sz : Nat) : Met l yX6_puts wsX6_puts ({ frames := 0, cells := 0, slots := 0, locals := 0 }) (gPre G [.ref h0, .int 17] [(cd, .inl (G.2.1, 1200, .inl (upd (upd (fun _ => 0) 0 0) 1 1))), (h0, .inr (6, [.int 0, .ref kd, .ref mo, .ref st, .int 0, .ref ro, .ref tp, .int 40, .ref cd, .ref sr, .int 0, .int 0, .int 0, .ref ir, .ref ih, .ref ss, .ref sq, .ref ce, .ref lw, .int 20, .int 19, .int 59, .int 0, .ref wo, .ref he, .int 0, .int 0, .int 2, .ref sk, .ref na, .ref kp, .int 0, .int 0, .int 0, .int 0, .ref gb, .ref go, .ref fa, .ref ga, .int 0, .int 0, .ref vo]))] sz) (q_X6_puts_z36 G h0 cd kd mo st ro tp sr ir ih ss sq ce lw wo he sk na kp gb go fa ga vo (va_A [(cd, .inl (G.2.1, 1200, .inl (upd (upd (fun _ => 0) 0 0) 1 1))), (h0, .inr (6, [.int 0, .ref kd, .ref mo, .ref st, .int 0, .ref ro, .ref tp, .int 40, .ref cd, .ref sr, .int 0, .int 0, .int 0, .ref ir, .ref ih, .ref ss, .ref sq, .ref ce, .ref lw, .int 20, .int 19, .int 59, .int 0, .ref wo, .ref he, .int 0, .int 0, .int 2, .ref sk, .ref na, .ref kp, .int 0, .int 0, .int 0, .int 0, .ref gb, .ref go, .ref fa, .ref ga, .int 0, .int 0, .ref vo]))] sz)) 0 0 (va_A [(cd, .inl (G.2.1, 1200, .inl (upd (upd (fun _ => 0) 0 0) 1 1))), (h0, .inr (6, [.int 0, .ref kd, .ref mo, .ref st, .int 0, .ref ro, .ref tp, .int 40, .ref cd, .ref sr, .int 0, .int 0, .int 0, .ref ir, .ref ih, .ref ss, .ref sq, .ref ce, .ref lw, .int 20, .int 19, .int 59, .int 0, .ref wo, .ref he, .int 0, .int 0, .int 2, .ref sk, .ref na, .ref kp, .int 0, .int 0, .int 0, .int 0, .ref gb, .ref go, .ref fa, .ref ga, .int 0, .int 0, .ref vo]))] sz) := by
  refine Met.ofW (cc := cX6_puts) (maxL := 2) (ret := none) (by decide) rfl ?_
  intro p e s m args below meth c s₁ B hml hv
  obtain ⟨rfl, hsz, hP, hK, hD0⟩ := hv
  have hx := B.exec
  have hb := B.bytes
  have hr := B.returns
  have hts := atoms_spec (ws := wsX6_puts) B.pre
  have hown : s.vm.findClass RX6 = some m.cls := findClass_of_methodNamed B.named
  have hlocks := B.notSynchronized
  subst hsz
  have hD := hD0.self (sz := s.heap.size)
  generalize hAe : va_A [(cd, .inl (G.2.1, 1200, .inl (upd (upd (fun _ => 0) 0 0) 1 1))), (h0, .inr (6, [.int 0, .ref kd, .ref mo, .ref st, .int 0, .ref ro, .ref tp, .int 40, .ref cd, .ref sr, .int 0, .int 0, .int 0, .ref ir, .ref ih, .ref ss, .ref sq, .ref ce, .ref lw, .int 20, .int 19, .int 59, .int 0, .ref wo, .ref he, .int 0, .int 0, .int 2, .ref sk, .ref na, .ref kp, .int 0, .int 0, .int 0, .int 0, .ref gb, .ref go, .ref fa, .ref ga, .int 0, .int 0, .ref vo]))] s.heap.size = A at hD ⊢
  have hA : ∀ q : Nat, s.heap.size ≤ q → A q := fun q h => by rw [← hAe]; exact Or.inr h
  have hS : va_S A s.heap s.heap [] := va_S.rf
  have hP : va_P G.1 vwCl [(cd, .inl (G.2.1, 1200, .inl (upd (upd (fun _ => 0) 0 0) 1 1))), (h0, .inr (6, [.int 0, .ref kd, .ref mo, .ref st, .int 0, .ref ro, .ref tp, .int 40, .ref cd, .ref sr, .int 0, .int 0, .int 0, .ref ir, .ref ih, .ref ss, .ref sq, .ref ce, .ref lw, .int 20, .int 19, .int 59, .int 0, .ref wo, .ref he, .int 0, .int 0, .int 2, .ref sk, .ref na, .ref kp, .int 0, .int 0, .int 0, .int 0, .ref gb, .ref go, .ref fa, .ref ga, .int 0, .int 0, .ref vo]))] s.heap := hP
  have hD : va_D A [(cd, .inl (G.2.1, 1200, .inl (upd (upd (fun _ => 0) 0 0) 1 1))), (h0, .inr (6, [.int 0, .ref kd, .ref mo, .ref st, .int 0, .ref ro, .ref tp, .int 40, .ref cd, .ref sr, .int 0, .int 0, .int 0, .ref ir, .ref ih, .ref ss, .ref sq, .ref ce, .ref lw, .int 20, .int 19, .int 59, .int 0, .ref wo, .ref he, .int 0, .int 0, .int 2, .ref sk, .ref na, .ref kp, .int 0, .int 0, .int 0, .int 0, .ref gb, .ref go, .ref fa, .ref ga, .int 0, .int 0, .ref vo]))] := hD
  have hl := lv_entry ([.ref h0, .int 17]) (n := 2) (Nat.le_of_ble_eq_true rfl)
  rw [lg_entry_eq]
  generalize (lg_sl ([.ref h0, .int 17]) ++ List.replicate (2 - (lg_sl ([.ref h0, .int 17])).length) Slot.unset).toArray = ls at hl ⊢
  have hl : lv_has ls 2 [(0, .ref h0), (1, .int 17)] := hl
  have kf25 := hts (.fieldLink RX6 25 "PebbleInShoeModel" "codes" "[I") (by decide +kernel)
  have hiX6 := (by decide +kernel : ∀ w ∈ wsX60, w ∈ wsX6_puts)
  have kf98 := hts (.fieldLink RX6 98 "PebbleInShoeModel" "texts" "I") (by decide +kernel)
  have kf127 := hts (.fieldLink RX6 127 "PebbleInShoeModel" "out" "I") (by decide +kernel)
  refine lv_aload_n hx hb dX6_puts_0 rfl (lv_at hl 0 rfl) ?_
  refine va_get (D := G.1) (ci := 6) (v := .ref cd) (C := RX6) (T := TX6) (N := 42) hx hb hts hiX6 hown hK hP 1 rfl rfl 8 (by decide) kf25 (fun _ h9 => h9) rfl dX6_puts_1 ?_
  refine lv_sipush (v := 200) hx hb dX6_puts_4 (by decide) ?_
  refine lv_aload_n hx hb dX6_puts_7 rfl (lv_at hl 0 rfl) ?_
  refine va_get (D := G.1) (ci := 6) (v := .int 0) (C := RX6) (T := TX6) (N := 42) hx hb hts hiX6 hown hK hP 1 rfl rfl 10 (by decide) kf98 (fun _ h9 => h9) rfl dX6_puts_8 ?_
  refine lv_imul hx hb dX6_puts_11 ?_
  refine lv_topi (fun v_1 ev_1 => ?_)
  have ev_1 : v_1 = 0 := ev_1.trans (by decide)
  subst ev_1
  refine lv_aload_n hx hb dX6_puts_12 rfl (lv_at hl 0 rfl) ?_
  refine va_get (D := G.1) (ci := 6) (v := .int 2) (C := RX6) (T := TX6) (N := 42) hx hb hts hiX6 hown hK hP 1 rfl rfl 27 (by decide) kf127 (fun _ h9 => h9) rfl dX6_puts_13 ?_
  refine lv_iadd hx hb dX6_puts_16 ?_
  refine lv_topi (fun v_2 ev_2 => ?_)
  have ev_2 : v_2 = 2 := ev_2.trans (by decide)
  subst ev_2
  refine lv_iload_n hx hb dX6_puts_17 rfl (lv_at hl 1 rfl) ?_
  refine va_iast (D := G.1) hx hb hK hP hD hS 0 0 rfl rfl (i := 2) (x := 17) (gIn (by decide)) dX6_puts_18 (fun H locs hP hD hS => ?_)
  have hP : va_P G.1 vwCl [(cd, .inl (G.2.1, 1200, .inl (upd (upd (upd (fun _ => 0) 0 0) 1 1) 2 17))), (h0, .inr (6, [.int 0, .ref kd, .ref mo, .ref st, .int 0, .ref ro, .ref tp, .int 40, .ref cd, .ref sr, .int 0, .int 0, .int 0, .ref ir, .ref ih, .ref ss, .ref sq, .ref ce, .ref lw, .int 20, .int 19, .int 59, .int 0, .ref wo, .ref he, .int 0, .int 0, .int 2, .ref sk, .ref na, .ref kp, .int 0, .int 0, .int 0, .int 0, .ref gb, .ref go, .ref fa, .ref ga, .int 0, .int 0, .ref vo]))] H := hP
  have hD : va_D A [(cd, .inl (G.2.1, 1200, .inl (upd (upd (upd (fun _ => 0) 0 0) 1 1) 2 17))), (h0, .inr (6, [.int 0, .ref kd, .ref mo, .ref st, .int 0, .ref ro, .ref tp, .int 40, .ref cd, .ref sr, .int 0, .int 0, .int 0, .ref ir, .ref ih, .ref ss, .ref sq, .ref ce, .ref lw, .int 20, .int 19, .int 59, .int 0, .ref wo, .ref he, .int 0, .int 0, .int 2, .ref sk, .ref na, .ref kp, .int 0, .int 0, .int 0, .int 0, .ref gb, .ref go, .ref fa, .ref ga, .int 0, .int 0, .ref vo]))] := hD
  refine lv_aload_n hx hb dX6_puts_19 rfl (lv_at hl 0 rfl) ?_
  refine lv_dup hx hb dX6_puts_20 rfl ?_
  refine va_get (D := G.1) (ci := 6) (v := .int 2) (C := RX6) (T := TX6) (N := 42) hx hb hts hiX6 hown hK hP 1 rfl rfl 27 (by decide) kf127 (fun _ h9 => h9) rfl dX6_puts_21 ?_
  refine lv_iconst (v := 1) hx hb dX6_puts_24 (by decide) ?_
  refine lv_iadd hx hb dX6_puts_25 ?_
  refine lv_topi (fun v_3 ev_3 => ?_)
  have ev_3 : v_3 = 3 := ev_3.trans (by decide)
  subst ev_3
  refine va_put (D := G.1) (ci := 6) (v := .int 3) (ty := .int) (C := RX6) (T := TX6) (N := 42) hx hb hts hiX6 tyX6 tyX6_ok nmX6 hown hK hP hD hS 1 rfl rfl 27 (by decide) kf127 (fun _ h9 => h9) rfl (by decide +kernel) rfl rfl (Nat.le_of_ble_eq_true rfl) dX6_puts_26 (fun H locs hP hD hS => ?_)
  have hP : va_P G.1 vwCl [(cd, .inl (G.2.1, 1200, .inl (upd (upd (upd (fun _ => 0) 0 0) 1 1) 2 17))), (h0, .inr (6, [.int 0, .ref kd, .ref mo, .ref st, .int 0, .ref ro, .ref tp, .int 40, .ref cd, .ref sr, .int 0, .int 0, .int 0, .ref ir, .ref ih, .ref ss, .ref sq, .ref ce, .ref lw, .int 20, .int 19, .int 59, .int 0, .ref wo, .ref he, .int 0, .int 0, .int 3, .ref sk, .ref na, .ref kp, .int 0, .int 0, .int 0, .int 0, .ref gb, .ref go, .ref fa, .ref ga, .int 0, .int 0, .ref vo]))] H := hP
  have hD : va_D A [(cd, .inl (G.2.1, 1200, .inl (upd (upd (upd (fun _ => 0) 0 0) 1 1) 2 17))), (h0, .inr (6, [.int 0, .ref kd, .ref mo, .ref st, .int 0, .ref ro, .ref tp, .int 40, .ref cd, .ref sr, .int 0, .int 0, .int 0, .ref ir, .ref ih, .ref ss, .ref sq, .ref ce, .ref lw, .int 20, .int 19, .int 59, .int 0, .ref wo, .ref he, .int 0, .int 0, .int 3, .ref sk, .ref na, .ref kp, .int 0, .int 0, .int 0, .int 0, .ref gb, .ref go, .ref fa, .ref ga, .int 0, .int 0, .ref vo]))] := hD
  have hP9 := hP.sub (ws' := [(cd, .inl (G.2.1, 1200, .inl (upd (upd (upd (fun _ => 0) 0 0) 1 1) 2 17))), (h0, .inr (6, [.int 0, .ref kd, .ref mo, .ref st, .int 0, .ref ro, .ref tp, .int 40, .ref cd, .ref sr, .int 0, .int 0, .int 0, .ref ir, .ref ih, .ref ss, .ref sq, .ref ce, .ref lw, .int 20, .int 19, .int 59, .int 0, .ref wo, .ref he, .int 0, .int 0, .int 3, .ref sk, .ref na, .ref kp, .int 0, .int 0, .int 0, .int 0, .ref gb, .ref go, .ref fa, .ref ga, .int 0, .int 0, .ref vo]))]) [0, 1] rfl
  have hD9 := hD.sub (ws' := [(cd, .inl (G.2.1, 1200, .inl (upd (upd (upd (fun _ => 0) 0 0) 1 1) 2 17))), (h0, .inr (6, [.int 0, .ref kd, .ref mo, .ref st, .int 0, .ref ro, .ref tp, .int 40, .ref cd, .ref sr, .int 0, .int 0, .int 0, .ref ir, .ref ih, .ref ss, .ref sq, .ref ce, .ref lw, .int 20, .int 19, .int 59, .int 0, .ref wo, .ref he, .int 0, .int 0, .int 3, .ref sk, .ref na, .ref kp, .int 0, .int 0, .int 0, .int 0, .ref gb, .ref go, .ref fa, .ref ga, .int 0, .int 0, .ref vo]))]) [0, 1] (by decide) rfl
  have hpost : (fun (u : Unit) => match u with | _ => True) () := by first | rfl | trivial
  exact W.vret hx hb hr (fun t ht hW => ⟨⟨(), rfl, hpost, by rw [ht]; exact hP9, va_K.moved hW.alike hK, hD9⟩, hS.F ht⟩) hS.2.2 dX6_puts_29
abbrev q_X6_unwinds_z35 (G : gG) (h0 he cd kd mo st ro tp sr ir ih ss sq ce lw wo sk na kp gb go fa ga vo : Nat) (A : Nat → Prop) : Array Value → State → Outcome → State → Prop := va_Qv (fun (u : Unit) => match u with | _ => True) (fun (u : Unit) t => match u with | _ => va_P G.1 vwCl [(he, .inl (G.2.1, 200, .inl (upd (fun _ => 0) 0 17))), (cd, .inl (G.2.1, 1200, .inl (upd (upd (upd (fun _ => 0) 0 0) 1 1) 2 17))), (h0, .inr (6, [.int 0, .ref kd, .ref mo, .ref st, .int 0, .ref ro, .ref tp, .int 40, .ref cd, .ref sr, .int 0, .int 0, .int 0, .ref ir, .ref ih, .ref ss, .ref sq, .ref ce, .ref lw, .int 20, .int 19, .int 59, .int 0, .ref wo, .ref he, .int 0, .int 0, .int 3, .ref sk, .ref na, .ref kp, .int 0, .int 0, .int 0, .int 0, .ref gb, .ref go, .ref fa, .ref ga, .int 0, .int 0, .ref vo]))] t.heap ∧ gK G t ∧ va_D A [(he, .inl (G.2.1, 200, .inl (upd (fun _ => 0) 0 17))), (cd, .inl (G.2.1, 1200, .inl (upd (upd (upd (fun _ => 0) 0 0) 1 1) 2 17))), (h0, .inr (6, [.int 0, .ref kd, .ref mo, .ref st, .int 0, .ref ro, .ref tp, .int 40, .ref cd, .ref sr, .int 0, .int 0, .int 0, .ref ir, .ref ih, .ref ss, .ref sq, .ref ce, .ref lw, .int 20, .int 19, .int 59, .int 0, .ref wo, .ref he, .int 0, .int 0, .int 3, .ref sk, .ref na, .ref kp, .int 0, .int 0, .int 0, .int 0, .ref gb, .ref go, .ref fa, .ref ga, .int 0, .int 0, .ref vo]))]) A
set_option maxHeartbeats 4000000 in
set_option maxRecDepth 100000 in
theorem c_X6_unwinds_z35 (l : Launch) (G : gG) (h0 he cd kd mo st ro tp sr ir ih ss sq ce lw wo sk na kp gb go fa ga vo : Nat) (sz : Nat) : Met l yX6_unwinds wsX6_unwinds ({ frames := 1, cells := 0, slots := 0, locals := 21 }) (gPre G [.ref h0, .int 1] [(he, .inl (G.2.1, 200, .inl (upd (fun _ => 0) 0 17))), (cd, .inl (G.2.1, 1200, .inl (upd (upd (fun _ => 0) 0 0) 1 1))), (h0, .inr (6, [.int 0, .ref kd, .ref mo, .ref st, .int 0, .ref ro, .ref tp, .int 40, .ref cd, .ref sr, .int 0, .int 0, .int 0, .ref ir, .ref ih, .ref ss, .ref sq, .ref ce, .ref lw, .int 20, .int 19, .int 59, .int 0, .ref wo, .ref he, .int 1, .int 0, .int 2, .ref sk, .ref na, .ref kp, .int 0, .int 0, .int 0, .int 0, .ref gb, .ref go, .ref fa, .ref ga, .int 0, .int 0, .ref vo]))] sz) (q_X6_unwinds_z35 G h0 he cd kd mo st ro tp sr ir ih ss sq ce lw wo sk na kp gb go fa ga vo (va_A [(he, .inl (G.2.1, 200, .inl (upd (fun _ => 0) 0 17))), (cd, .inl (G.2.1, 1200, .inl (upd (upd (fun _ => 0) 0 0) 1 1))), (h0, .inr (6, [.int 0, .ref kd, .ref mo, .ref st, .int 0, .ref ro, .ref tp, .int 40, .ref cd, .ref sr, .int 0, .int 0, .int 0, .ref ir, .ref ih, .ref ss, .ref sq, .ref ce, .ref lw, .int 20, .int 19, .int 59, .int 0, .ref wo, .ref he, .int 1, .int 0, .int 2, .ref sk, .ref na, .ref kp, .int 0, .int 0, .int 0, .int 0, .ref gb, .ref go, .ref fa, .ref ga, .int 0, .int 0, .ref vo]))] sz)) 0 0 (va_A [(he, .inl (G.2.1, 200, .inl (upd (fun _ => 0) 0 17))), (cd, .inl (G.2.1, 1200, .inl (upd (upd (fun _ => 0) 0 0) 1 1))), (h0, .inr (6, [.int 0, .ref kd, .ref mo, .ref st, .int 0, .ref ro, .ref tp, .int 40, .ref cd, .ref sr, .int 0, .int 0, .int 0, .ref ir, .ref ih, .ref ss, .ref sq, .ref ce, .ref lw, .int 20, .int 19, .int 59, .int 0, .ref wo, .ref he, .int 1, .int 0, .int 2, .ref sk, .ref na, .ref kp, .int 0, .int 0, .int 0, .int 0, .ref gb, .ref go, .ref fa, .ref ga, .int 0, .int 0, .ref vo]))] sz) := by
  refine Met.ofW (cc := cX6_unwinds) (maxL := 3) (ret := none) (by decide) rfl ?_
  intro p e s m args below meth c s₁ B hml hv
  obtain ⟨rfl, hsz, hP, hK, hD0⟩ := hv
  have hx := B.exec
  have hb := B.bytes
  have hr := B.returns
  have hts := atoms_spec (ws := wsX6_unwinds) B.pre
  have hown : s.vm.findClass RX6 = some m.cls := findClass_of_methodNamed B.named
  have hlocks := B.notSynchronized
  subst hsz
  have hD := hD0.self (sz := s.heap.size)
  generalize hAe : va_A [(he, .inl (G.2.1, 200, .inl (upd (fun _ => 0) 0 17))), (cd, .inl (G.2.1, 1200, .inl (upd (upd (fun _ => 0) 0 0) 1 1))), (h0, .inr (6, [.int 0, .ref kd, .ref mo, .ref st, .int 0, .ref ro, .ref tp, .int 40, .ref cd, .ref sr, .int 0, .int 0, .int 0, .ref ir, .ref ih, .ref ss, .ref sq, .ref ce, .ref lw, .int 20, .int 19, .int 59, .int 0, .ref wo, .ref he, .int 1, .int 0, .int 2, .ref sk, .ref na, .ref kp, .int 0, .int 0, .int 0, .int 0, .ref gb, .ref go, .ref fa, .ref ga, .int 0, .int 0, .ref vo]))] s.heap.size = A at hD ⊢
  have hA : ∀ q : Nat, s.heap.size ≤ q → A q := fun q h => by rw [← hAe]; exact Or.inr h
  have hS : va_S A s.heap s.heap [] := va_S.rf
  have hP : va_P G.1 vwCl [(he, .inl (G.2.1, 200, .inl (upd (fun _ => 0) 0 17))), (cd, .inl (G.2.1, 1200, .inl (upd (upd (fun _ => 0) 0 0) 1 1))), (h0, .inr (6, [.int 0, .ref kd, .ref mo, .ref st, .int 0, .ref ro, .ref tp, .int 40, .ref cd, .ref sr, .int 0, .int 0, .int 0, .ref ir, .ref ih, .ref ss, .ref sq, .ref ce, .ref lw, .int 20, .int 19, .int 59, .int 0, .ref wo, .ref he, .int 1, .int 0, .int 2, .ref sk, .ref na, .ref kp, .int 0, .int 0, .int 0, .int 0, .ref gb, .ref go, .ref fa, .ref ga, .int 0, .int 0, .ref vo]))] s.heap := hP
  have hD : va_D A [(he, .inl (G.2.1, 200, .inl (upd (fun _ => 0) 0 17))), (cd, .inl (G.2.1, 1200, .inl (upd (upd (fun _ => 0) 0 0) 1 1))), (h0, .inr (6, [.int 0, .ref kd, .ref mo, .ref st, .int 0, .ref ro, .ref tp, .int 40, .ref cd, .ref sr, .int 0, .int 0, .int 0, .ref ir, .ref ih, .ref ss, .ref sq, .ref ce, .ref lw, .int 20, .int 19, .int 59, .int 0, .ref wo, .ref he, .int 1, .int 0, .int 2, .ref sk, .ref na, .ref kp, .int 0, .int 0, .int 0, .int 0, .ref gb, .ref go, .ref fa, .ref ga, .int 0, .int 0, .ref vo]))] := hD
  have hl := lv_entry ([.ref h0, .int 1]) (n := 3) (Nat.le_of_ble_eq_true rfl)
  rw [lg_entry_eq]
  generalize (lg_sl ([.ref h0, .int 1]) ++ List.replicate (3 - (lg_sl ([.ref h0, .int 1])).length) Slot.unset).toArray = ls at hl ⊢
  have hl : lv_has ls 3 [(0, .ref h0), (1, .int 1)] := hl
  have kf130 := hts (.fieldLink RX6 130 "PebbleInShoeModel" "heldMany" "I") (by decide +kernel)
  have hiX6 := (by decide +kernel : ∀ w ∈ wsX60, w ∈ wsX6_unwinds)
  have kf52 := hts (.fieldLink RX6 52 "PebbleInShoeModel" "held" "[I") (by decide +kernel)
  have kf137 := hts (.fieldLink RX6 137 "PebbleInShoeModel" "opens" "I") (by decide +kernel)
  refine lv_aload_n hx hb dX6_unwinds_0 rfl (lv_at hl 0 rfl) ?_
  refine va_get (D := G.1) (ci := 6) (v := .int 1) (C := RX6) (T := TX6) (N := 42) hx hb hts hiX6 hown hK hP 2 rfl rfl 25 (by decide) kf130 (fun _ h9 => h9) rfl dX6_unwinds_1 ?_
  refine lv_if_le (tgt := 79) hx hb dX6_unwinds_4 (by decide) (fun c_1 => ?_) (fun c_1 => ?_)
  · exact absurd c_1 (by decide)
  refine lv_aload_n hx hb dX6_unwinds_7 rfl (lv_at hl 0 rfl) ?_
  refine va_get (D := G.1) (ci := 6) (v := .ref he) (C := RX6) (T := TX6) (N := 42) hx hb hts hiX6 hown hK hP 2 rfl rfl 24 (by decide) kf52 (fun _ h9 => h9) rfl dX6_unwinds_8 ?_
  refine lv_aload_n hx hb dX6_unwinds_11 rfl (lv_at hl 0 rfl) ?_
  refine va_get (D := G.1) (ci := 6) (v := .int 1) (C := RX6) (T := TX6) (N := 42) hx hb hts hiX6 hown hK hP 2 rfl rfl 25 (by decide) kf130 (fun _ h9 => h9) rfl dX6_unwinds_12 ?_
  refine lv_iconst (v := 1) hx hb dX6_unwinds_15 (by decide) ?_
  refine lv_isub hx hb dX6_unwinds_16 ?_
  refine lv_topi (fun v_2 ev_2 => ?_)
  have ev_2 : v_2 = 0 := ev_2.trans (by decide)
  subst ev_2
  refine va_iald (D := G.1) hx hb hK hP 0 0 rfl rfl (i := 0) (gIn (by decide)) dX6_unwinds_17 ?_
  refine lv_topi (fun v_3 ev_3 => ?_)
  have ev_3 : v_3 = 17 := ev_3.trans (by decide)
  subst ev_3
  have hPc : va_P G.1 vwCl [] s.heap := hP.sub [] rfl
  have hDc : va_D A [] := hD.sub [] (by decide) rfl
  have hFc := va_free (wc := []) hD hS hA [] rfl
  refine va_calli (va_runS (As := [.int 17]) (rest := []) ⟨hx, hb, hml, hown, hts⟩ (c_X6_rank_z20 l G s.heap.size) (va_cwS 1 hts gX6_unwinds_X6_rank rfl rfl rfl (by decide +kernel) ⟨Nat.le_of_ble_eq_true rfl, Nat.le_of_ble_eq_true rfl⟩) ⟨gPre_blind, fun U hU hW => gPre_of hU hW hK hPc hDc⟩ rfl rfl hl.1 rfl (lv_room (Nat.le_of_ble_eq_true rfl)) dX6_unwinds_18 ⟨Nat.le_of_ble_eq_true rfl, Nat.le_of_ble_eq_true rfl⟩) hS (fun q _ h => hFc q h) hFc (fun r_4 u t H locs ht hvm w_5 hB hz1 hk1 hS => ?_)
  obtain ⟨hP1, hK1, hD1⟩ := hB
  rw [ht] at hP1
  have hP1 : va_P G.1 vwCl [] H := hP1
  have hD1 : va_D (va_A [] s.heap.size) [] := hD1
  have w_5 : r_4 = 5 := w_5
  obtain ⟨hP, hD⟩ := va_join (wr := [(he, .inl (G.2.1, 200, .inl (upd (fun _ => 0) 0 17))), (cd, .inl (G.2.1, 1200, .inl (upd (upd (fun _ => 0) 0 0) 1 1))), (h0, .inr (6, [.int 0, .ref kd, .ref mo, .ref st, .int 0, .ref ro, .ref tp, .int 40, .ref cd, .ref sr, .int 0, .int 0, .int 0, .ref ir, .ref ih, .ref ss, .ref sq, .ref ce, .ref lw, .int 20, .int 19, .int 59, .int 0, .ref wo, .ref he, .int 1, .int 0, .int 2, .ref sk, .ref na, .ref kp, .int 0, .int 0, .int 0, .int 0, .ref gb, .ref go, .ref fa, .ref ga, .int 0, .int 0, .ref vo]))]) (w1 := []) hP hD [] [0, 1, 2] rfl rfl (by decide) (by decide) hk1 hFc hP1 hD1
  have hP : va_P G.1 vwCl [(he, .inl (G.2.1, 200, .inl (upd (fun _ => 0) 0 17))), (cd, .inl (G.2.1, 1200, .inl (upd (upd (fun _ => 0) 0 0) 1 1))), (h0, .inr (6, [.int 0, .ref kd, .ref mo, .ref st, .int 0, .ref ro, .ref tp, .int 40, .ref cd, .ref sr, .int 0, .int 0, .int 0, .ref ir, .ref ih, .ref ss, .ref sq, .ref ce, .ref lw, .int 20, .int 19, .int 59, .int 0, .ref wo, .ref he, .int 1, .int 0, .int 2, .ref sk, .ref na, .ref kp, .int 0, .int 0, .int 0, .int 0, .ref gb, .ref go, .ref fa, .ref ga, .int 0, .int 0, .ref vo]))] H := hP
  have hD : va_D A [(he, .inl (G.2.1, 200, .inl (upd (fun _ => 0) 0 17))), (cd, .inl (G.2.1, 1200, .inl (upd (upd (fun _ => 0) 0 0) 1 1))), (h0, .inr (6, [.int 0, .ref kd, .ref mo, .ref st, .int 0, .ref ro, .ref tp, .int 40, .ref cd, .ref sr, .int 0, .int 0, .int 0, .ref ir, .ref ih, .ref ss, .ref sq, .ref ce, .ref lw, .int 20, .int 19, .int 59, .int 0, .ref wo, .ref he, .int 1, .int 0, .int 2, .ref sk, .ref na, .ref kp, .int 0, .int 0, .int 0, .int 0, .ref gb, .ref go, .ref fa, .ref ga, .int 0, .int 0, .ref vo]))] := hD
  have w_5 : r_4 = 5 := w_5
  subst w_5
  refine lv_iload_n hx hb dX6_unwinds_21 rfl (lv_at hl 1 rfl) ?_
  refine lv_icmp_lt (tgt := 79) hx hb dX6_unwinds_22 (by decide) (fun c_6 => ?_) (fun c_6 => ?_)
  · exact absurd c_6 (by decide)
  refine lv_aload_n hx hb dX6_unwinds_25 rfl (lv_at hl 0 rfl) ?_
  refine lv_dup hx hb dX6_unwinds_26 rfl ?_
  refine va_get (D := G.1) (ci := 6) (v := .int 1) (C := RX6) (T := TX6) (N := 42) hx hb hts hiX6 hown hK hP 2 rfl rfl 25 (by decide) kf130 (fun _ h9 => h9) rfl dX6_unwinds_27 ?_
  refine lv_iconst (v := 1) hx hb dX6_unwinds_30 (by decide) ?_
  refine lv_isub hx hb dX6_unwinds_31 ?_
  refine lv_topi (fun v_7 ev_7 => ?_)
  have ev_7 : v_7 = 0 := ev_7.trans (by decide)
  subst ev_7
  refine va_put (D := G.1) (ci := 6) (v := .int 0) (ty := .int) (C := RX6) (T := TX6) (N := 42) hx hb hts hiX6 tyX6 tyX6_ok nmX6 hown hK hP hD hS 2 rfl rfl 25 (by decide) kf130 (fun _ h9 => h9) rfl (by decide +kernel) rfl rfl (Nat.le_of_ble_eq_true rfl) dX6_unwinds_32 (fun H locs hP hD hS => ?_)
  have hP : va_P G.1 vwCl [(he, .inl (G.2.1, 200, .inl (upd (fun _ => 0) 0 17))), (cd, .inl (G.2.1, 1200, .inl (upd (upd (fun _ => 0) 0 0) 1 1))), (h0, .inr (6, [.int 0, .ref kd, .ref mo, .ref st, .int 0, .ref ro, .ref tp, .int 40, .ref cd, .ref sr, .int 0, .int 0, .int 0, .ref ir, .ref ih, .ref ss, .ref sq, .ref ce, .ref lw, .int 20, .int 19, .int 59, .int 0, .ref wo, .ref he, .int 0, .int 0, .int 2, .ref sk, .ref na, .ref kp, .int 0, .int 0, .int 0, .int 0, .ref gb, .ref go, .ref fa, .ref ga, .int 0, .int 0, .ref vo]))] H := hP
  have hD : va_D A [(he, .inl (G.2.1, 200, .inl (upd (fun _ => 0) 0 17))), (cd, .inl (G.2.1, 1200, .inl (upd (upd (fun _ => 0) 0 0) 1 1))), (h0, .inr (6, [.int 0, .ref kd, .ref mo, .ref st, .int 0, .ref ro, .ref tp, .int 40, .ref cd, .ref sr, .int 0, .int 0, .int 0, .ref ir, .ref ih, .ref ss, .ref sq, .ref ce, .ref lw, .int 20, .int 19, .int 59, .int 0, .ref wo, .ref he, .int 0, .int 0, .int 2, .ref sk, .ref na, .ref kp, .int 0, .int 0, .int 0, .int 0, .ref gb, .ref go, .ref fa, .ref ga, .int 0, .int 0, .ref vo]))] := hD
  refine lv_aload_n hx hb dX6_unwinds_35 rfl (lv_at hl 0 rfl) ?_
  refine va_get (D := G.1) (ci := 6) (v := .ref he) (C := RX6) (T := TX6) (N := 42) hx hb hts hiX6 hown hK hP 2 rfl rfl 24 (by decide) kf52 (fun _ h9 => h9) rfl dX6_unwinds_36 ?_
  refine lv_aload_n hx hb dX6_unwinds_39 rfl (lv_at hl 0 rfl) ?_
  refine va_get (D := G.1) (ci := 6) (v := .int 0) (C := RX6) (T := TX6) (N := 42) hx hb hts hiX6 hown hK hP 2 rfl rfl 25 (by decide) kf130 (fun _ h9 => h9) rfl dX6_unwinds_40 ?_
  refine va_iald (D := G.1) hx hb hK hP 0 0 rfl rfl (i := 0) (gIn (by decide)) dX6_unwinds_43 ?_
  refine lv_topi (fun v_8 ev_8 => ?_)
  have ev_8 : v_8 = 17 := ev_8.trans (by decide)
  subst ev_8
  refine lv_istore_n (lv' := [(2, .int 17), (0, .ref h0), (1, .int 1)]) hx hb dX6_unwinds_44 rfl hl (by decide) rfl (fun ls hl => ?_)
  refine lv_aload_n hx hb dX6_unwinds_45 rfl (lv_at hl 1 rfl) ?_
  refine lv_dup hx hb dX6_unwinds_46 rfl ?_
  refine va_get (D := G.1) (ci := 6) (v := .int 0) (C := RX6) (T := TX6) (N := 42) hx hb hts hiX6 hown hK hP 2 rfl rfl 26 (by decide) kf137 (fun _ h9 => h9) rfl dX6_unwinds_47 ?_
  refine lv_iload_n hx hb dX6_unwinds_50 rfl (lv_at hl 0 rfl) ?_
  refine lv_bipush (v := 13) hx hb dX6_unwinds_51 (by decide) ?_
  refine lv_icmp_eq (tgt := 62) hx hb dX6_unwinds_53 (by decide) (fun c_9 => ?_) (fun c_9 => ?_)
  · exact absurd c_9 (by decide)
  refine lv_iload_n hx hb dX6_unwinds_56 rfl (lv_at hl 0 rfl) ?_
  refine lv_bipush (v := 19) hx hb dX6_unwinds_57 (by decide) ?_
  refine lv_icmp_ne (tgt := 66) hx hb dX6_unwinds_59 (by decide) (fun c_10 => ?_) (fun c_10 => ?_)
  rotate_left
  · exact absurd c_10 (by decide)
  refine lv_iconst (v := 0) hx hb dX6_unwinds_66 (by decide) ?_
  refine lv_isub hx hb dX6_unwinds_67 ?_
  refine lv_topi (fun v_11 ev_11 => ?_)
  have ev_11 : v_11 = 0 := ev_11.trans (by decide)
  subst ev_11
  refine va_put (D := G.1) (ci := 6) (v := .int 0) (ty := .int) (C := RX6) (T := TX6) (N := 42) hx hb hts hiX6 tyX6 tyX6_ok nmX6 hown hK hP hD hS 2 rfl rfl 26 (by decide) kf137 (fun _ h9 => h9) rfl (by decide +kernel) rfl rfl (Nat.le_of_ble_eq_true rfl) dX6_unwinds_68 (fun H locs hP hD hS => ?_)
  have hP : va_P G.1 vwCl [(he, .inl (G.2.1, 200, .inl (upd (fun _ => 0) 0 17))), (cd, .inl (G.2.1, 1200, .inl (upd (upd (fun _ => 0) 0 0) 1 1))), (h0, .inr (6, [.int 0, .ref kd, .ref mo, .ref st, .int 0, .ref ro, .ref tp, .int 40, .ref cd, .ref sr, .int 0, .int 0, .int 0, .ref ir, .ref ih, .ref ss, .ref sq, .ref ce, .ref lw, .int 20, .int 19, .int 59, .int 0, .ref wo, .ref he, .int 0, .int 0, .int 2, .ref sk, .ref na, .ref kp, .int 0, .int 0, .int 0, .int 0, .ref gb, .ref go, .ref fa, .ref ga, .int 0, .int 0, .ref vo]))] H := hP
  have hD : va_D A [(he, .inl (G.2.1, 200, .inl (upd (fun _ => 0) 0 17))), (cd, .inl (G.2.1, 1200, .inl (upd (upd (fun _ => 0) 0 0) 1 1))), (h0, .inr (6, [.int 0, .ref kd, .ref mo, .ref st, .int 0, .ref ro, .ref tp, .int 40, .ref cd, .ref sr, .int 0, .int 0, .int 0, .ref ir, .ref ih, .ref ss, .ref sq, .ref ce, .ref lw, .int 20, .int 19, .int 59, .int 0, .ref wo, .ref he, .int 0, .int 0, .int 2, .ref sk, .ref na, .ref kp, .int 0, .int 0, .int 0, .int 0, .ref gb, .ref go, .ref fa, .ref ga, .int 0, .int 0, .ref vo]))] := hD
  refine lv_aload_n hx hb dX6_unwinds_71 rfl (lv_at hl 1 rfl) ?_
  refine lv_iload_n hx hb dX6_unwinds_72 rfl (lv_at hl 0 rfl) ?_
  have hPc : va_P G.1 vwCl [(cd, .inl (G.2.1, 1200, .inl (upd (upd (fun _ => 0) 0 0) 1 1))), (h0, .inr (6, [.int 0, .ref kd, .ref mo, .ref st, .int 0, .ref ro, .ref tp, .int 40, .ref cd, .ref sr, .int 0, .int 0, .int 0, .ref ir, .ref ih, .ref ss, .ref sq, .ref ce, .ref lw, .int 20, .int 19, .int 59, .int 0, .ref wo, .ref he, .int 0, .int 0, .int 2, .ref sk, .ref na, .ref kp, .int 0, .int 0, .int 0, .int 0, .ref gb, .ref go, .ref fa, .ref ga, .int 0, .int 0, .ref vo]))] H := hP.sub [1, 2] rfl
  have hDc : va_D A [(cd, .inl (G.2.1, 1200, .inl (upd (upd (fun _ => 0) 0 0) 1 1))), (h0, .inr (6, [.int 0, .ref kd, .ref mo, .ref st, .int 0, .ref ro, .ref tp, .int 40, .ref cd, .ref sr, .int 0, .int 0, .int 0, .ref ir, .ref ih, .ref ss, .ref sq, .ref ce, .ref lw, .int 20, .int 19, .int 59, .int 0, .ref wo, .ref he, .int 0, .int 0, .int 2, .ref sk, .ref na, .ref kp, .int 0, .int 0, .int 0, .int 0, .ref gb, .ref go, .ref fa, .ref ga, .int 0, .int 0, .ref vo]))] := hD.sub [1, 2] (by decide) rfl
  have hFc := va_free (wc := [(cd, .inl (G.2.1, 1200, .inl (upd (upd (fun _ => 0) 0 0) 1 1))), (h0, .inr (6, [.int 0, .ref kd, .ref mo, .ref st, .int 0, .ref ro, .ref tp, .int 40, .ref cd, .ref sr, .int 0, .int 0, .int 0, .ref ir, .ref ih, .ref ss, .ref sq, .ref ce, .ref lw, .int 20, .int 19, .int 59, .int 0, .ref wo, .ref he, .int 0, .int 0, .int 2, .ref sk, .ref na, .ref kp, .int 0, .int 0, .int 0, .int 0, .ref gb, .ref go, .ref fa, .ref ga, .int 0, .int 0, .ref vo]))]) hD hS hA [1, 2] rfl
  refine va_callv (va_runV (As := [.int 17]) (rest := []) ⟨hx, hb, hml, hown, hts⟩ (c_X6_puts_z36 l G h0 cd kd mo st ro tp sr ir ih ss sq ce lw wo he sk na kp gb go fa ga vo H.size) (cwV 1 hts gX6_unwinds_X6_puts rfl rfl rfl (by decide +kernel) ⟨Nat.le_of_ble_eq_true rfl, Nat.le_of_ble_eq_true rfl⟩) ⟨gPre_blind, va_recv hK hPc (ci := 6) (q0 := 1) rfl rfl, fun U hU hW => gPre_of hU hW hK hPc hDc⟩ rfl rfl hl.1 rfl (lv_room (Nat.le_of_ble_eq_true rfl)) dX6_unwinds_73 ⟨Nat.le_of_ble_eq_true rfl, Nat.le_of_ble_eq_true rfl⟩) hS (fun q _ h => hFc q h) hFc (fun u t H locs ht hvm w_13 hB hz1 hk1 hS => ?_)
  obtain ⟨hP1, hK1, hD1⟩ := hB
  rw [ht] at hP1
  have hP1 : va_P G.1 vwCl [(cd, .inl (G.2.1, 1200, .inl (upd (upd (upd (fun _ => 0) 0 0) 1 1) 2 17))), (h0, .inr (6, [.int 0, .ref kd, .ref mo, .ref st, .int 0, .ref ro, .ref tp, .int 40, .ref cd, .ref sr, .int 0, .int 0, .int 0, .ref ir, .ref ih, .ref ss, .ref sq, .ref ce, .ref lw, .int 20, .int 19, .int 59, .int 0, .ref wo, .ref he, .int 0, .int 0, .int 3, .ref sk, .ref na, .ref kp, .int 0, .int 0, .int 0, .int 0, .ref gb, .ref go, .ref fa, .ref ga, .int 0, .int 0, .ref vo]))] H := hP1
  have hD1 : va_D (va_A [(cd, .inl (G.2.1, 1200, .inl (upd (upd (fun _ => 0) 0 0) 1 1))), (h0, .inr (6, [.int 0, .ref kd, .ref mo, .ref st, .int 0, .ref ro, .ref tp, .int 40, .ref cd, .ref sr, .int 0, .int 0, .int 0, .ref ir, .ref ih, .ref ss, .ref sq, .ref ce, .ref lw, .int 20, .int 19, .int 59, .int 0, .ref wo, .ref he, .int 0, .int 0, .int 2, .ref sk, .ref na, .ref kp, .int 0, .int 0, .int 0, .int 0, .ref gb, .ref go, .ref fa, .ref ga, .int 0, .int 0, .ref vo]))] _) [(cd, .inl (G.2.1, 1200, .inl (upd (upd (upd (fun _ => 0) 0 0) 1 1) 2 17))), (h0, .inr (6, [.int 0, .ref kd, .ref mo, .ref st, .int 0, .ref ro, .ref tp, .int 40, .ref cd, .ref sr, .int 0, .int 0, .int 0, .ref ir, .ref ih, .ref ss, .ref sq, .ref ce, .ref lw, .int 20, .int 19, .int 59, .int 0, .ref wo, .ref he, .int 0, .int 0, .int 3, .ref sk, .ref na, .ref kp, .int 0, .int 0, .int 0, .int 0, .ref gb, .ref go, .ref fa, .ref ga, .int 0, .int 0, .ref vo]))] := hD1
  obtain ⟨hP, hD⟩ := va_join (wr := [(he, .inl (G.2.1, 200, .inl (upd (fun _ => 0) 0 17)))]) (w1 := [(cd, .inl (G.2.1, 1200, .inl (upd (upd (upd (fun _ => 0) 0 0) 1 1) 2 17))), (h0, .inr (6, [.int 0, .ref kd, .ref mo, .ref st, .int 0, .ref ro, .ref tp, .int 40, .ref cd, .ref sr, .int 0, .int 0, .int 0, .ref ir, .ref ih, .ref ss, .ref sq, .ref ce, .ref lw, .int 20, .int 19, .int 59, .int 0, .ref wo, .ref he, .int 0, .int 0, .int 3, .ref sk, .ref na, .ref kp, .int 0, .int 0, .int 0, .int 0, .ref gb, .ref go, .ref fa, .ref ga, .int 0, .int 0, .ref vo]))]) hP hD [1, 2] [0] rfl rfl (by decide) (by decide) hk1 hFc hP1 hD1
  have hP : va_P G.1 vwCl [(he, .inl (G.2.1, 200, .inl (upd (fun _ => 0) 0 17))), (cd, .inl (G.2.1, 1200, .inl (upd (upd (upd (fun _ => 0) 0 0) 1 1) 2 17))), (h0, .inr (6, [.int 0, .ref kd, .ref mo, .ref st, .int 0, .ref ro, .ref tp, .int 40, .ref cd, .ref sr, .int 0, .int 0, .int 0, .ref ir, .ref ih, .ref ss, .ref sq, .ref ce, .ref lw, .int 20, .int 19, .int 59, .int 0, .ref wo, .ref he, .int 0, .int 0, .int 3, .ref sk, .ref na, .ref kp, .int 0, .int 0, .int 0, .int 0, .ref gb, .ref go, .ref fa, .ref ga, .int 0, .int 0, .ref vo]))] H := hP
  have hD : va_D A [(he, .inl (G.2.1, 200, .inl (upd (fun _ => 0) 0 17))), (cd, .inl (G.2.1, 1200, .inl (upd (upd (upd (fun _ => 0) 0 0) 1 1) 2 17))), (h0, .inr (6, [.int 0, .ref kd, .ref mo, .ref st, .int 0, .ref ro, .ref tp, .int 40, .ref cd, .ref sr, .int 0, .int 0, .int 0, .ref ir, .ref ih, .ref ss, .ref sq, .ref ce, .ref lw, .int 20, .int 19, .int 59, .int 0, .ref wo, .ref he, .int 0, .int 0, .int 3, .ref sk, .ref na, .ref kp, .int 0, .int 0, .int 0, .int 0, .ref gb, .ref go, .ref fa, .ref ga, .int 0, .int 0, .ref vo]))] := hD
  refine lv_goto (tgt := 0) hx hb dX6_unwinds_76 (by decide) ?_
  refine lv_aload_n hx hb dX6_unwinds_0 rfl (lv_at hl 1 rfl) ?_
  refine va_get (D := G.1) (ci := 6) (v := .int 0) (C := RX6) (T := TX6) (N := 42) hx hb hts hiX6 hown hK hP 2 rfl rfl 25 (by decide) kf130 (fun _ h9 => h9) rfl dX6_unwinds_1 ?_
  refine lv_if_le (tgt := 79) hx hb dX6_unwinds_4 (by decide) (fun c_14 => ?_) (fun c_14 => ?_)
  rotate_left
  · exact absurd (by decide) c_14
  have hP9 := hP.sub (ws' := [(he, .inl (G.2.1, 200, .inl (upd (fun _ => 0) 0 17))), (cd, .inl (G.2.1, 1200, .inl (upd (upd (upd (fun _ => 0) 0 0) 1 1) 2 17))), (h0, .inr (6, [.int 0, .ref kd, .ref mo, .ref st, .int 0, .ref ro, .ref tp, .int 40, .ref cd, .ref sr, .int 0, .int 0, .int 0, .ref ir, .ref ih, .ref ss, .ref sq, .ref ce, .ref lw, .int 20, .int 19, .int 59, .int 0, .ref wo, .ref he, .int 0, .int 0, .int 3, .ref sk, .ref na, .ref kp, .int 0, .int 0, .int 0, .int 0, .ref gb, .ref go, .ref fa, .ref ga, .int 0, .int 0, .ref vo]))]) [0, 1, 2] rfl
  have hD9 := hD.sub (ws' := [(he, .inl (G.2.1, 200, .inl (upd (fun _ => 0) 0 17))), (cd, .inl (G.2.1, 1200, .inl (upd (upd (upd (fun _ => 0) 0 0) 1 1) 2 17))), (h0, .inr (6, [.int 0, .ref kd, .ref mo, .ref st, .int 0, .ref ro, .ref tp, .int 40, .ref cd, .ref sr, .int 0, .int 0, .int 0, .ref ir, .ref ih, .ref ss, .ref sq, .ref ce, .ref lw, .int 20, .int 19, .int 59, .int 0, .ref wo, .ref he, .int 0, .int 0, .int 3, .ref sk, .ref na, .ref kp, .int 0, .int 0, .int 0, .int 0, .ref gb, .ref go, .ref fa, .ref ga, .int 0, .int 0, .ref vo]))]) [0, 1, 2] (by decide) rfl
  have hpost : (fun (u : Unit) => match u with | _ => True) () := by first | rfl | trivial
  exact W.vret hx hb hr (fun t ht hW => ⟨⟨(), rfl, hpost, by rw [ht]; exact hP9, va_K.moved hW.alike hK, hD9⟩, hS.F ht⟩) hS.2.2 dX6_unwinds_79
abbrev q_X6_eRead_z8 (G : gG) (h0 cd he kd mo st ro tp sr ir ih ss sq ce lw wo sk na kp gb go fa ga vo : Nat) (A : Nat → Prop) : Array Value → State → Outcome → State → Prop := va_Qi (fun (r : Int32) (u : Unit) => match u with | _ => r = 1) (fun (u : Unit) t => match u with | _ => va_P G.1 vwCl [(cd, .inl (G.2.1, 1200, .inl (upd (upd (upd (fun _ => 0) 0 0) 1 1) 2 17))), (he, .inl (G.2.1, 200, .inl (upd (fun _ => 0) 0 17))), (h0, .inr (6, [.int 0, .ref kd, .ref mo, .ref st, .int 0, .ref ro, .ref tp, .int 40, .ref cd, .ref sr, .int 0, .int 0, .int 0, .ref ir, .ref ih, .ref ss, .ref sq, .ref ce, .ref lw, .int 20, .int 19, .int 59, .int 0, .ref wo, .ref he, .int 0, .int 0, .int 3, .ref sk, .ref na, .ref kp, .int 0, .int 0, .int 0, .int 0, .ref gb, .ref go, .ref fa, .ref ga, .int 0, .int 0, .ref vo])), (tp, .inl (G.2.1, 160, .inl (gPf tB 40))), (wo, .inl (G.2.1, 96, .inl (gPf tW 96)))] t.heap ∧ gK G t ∧ va_D A [(cd, .inl (G.2.1, 1200, .inl (upd (upd (upd (fun _ => 0) 0 0) 1 1) 2 17))), (he, .inl (G.2.1, 200, .inl (upd (fun _ => 0) 0 17))), (h0, .inr (6, [.int 0, .ref kd, .ref mo, .ref st, .int 0, .ref ro, .ref tp, .int 40, .ref cd, .ref sr, .int 0, .int 0, .int 0, .ref ir, .ref ih, .ref ss, .ref sq, .ref ce, .ref lw, .int 20, .int 19, .int 59, .int 0, .ref wo, .ref he, .int 0, .int 0, .int 3, .ref sk, .ref na, .ref kp, .int 0, .int 0, .int 0, .int 0, .ref gb, .ref go, .ref fa, .ref ga, .int 0, .int 0, .ref vo])), (tp, .inl (G.2.1, 160, .inl (gPf tB 40))), (wo, .inl (G.2.1, 96, .inl (gPf tW 96)))]) A
set_option maxHeartbeats 4000000 in
set_option maxRecDepth 100000 in
theorem c_X6_eRead_z8 (l : Launch) (G : gG) (h0 cd he kd mo st ro tp sr ir ih ss sq ce lw wo sk na kp gb go fa ga vo : Nat) (sz : Nat) : Met l yX6_eRead wsX6_eRead ({ frames := 2, cells := 0, slots := 0, locals := 47 }) (gPre G [.ref h0] [(cd, .inl (G.2.1, 1200, .inl (fun _ => 0))), (he, .inl (G.2.1, 200, .inl (fun _ => 0))), (h0, .inr (6, [.int 0, .ref kd, .ref mo, .ref st, .int 0, .ref ro, .ref tp, .int 40, .ref cd, .ref sr, .int 0, .int 0, .int 0, .ref ir, .ref ih, .ref ss, .ref sq, .ref ce, .ref lw, .int 5, .int 0, .int 3, .int 0, .ref wo, .ref he, .int 0, .int 0, .int 0, .ref sk, .ref na, .ref kp, .int 0, .int 0, .int 0, .int 0, .ref gb, .ref go, .ref fa, .ref ga, .int 0, .int 0, .ref vo])), (tp, .inl (G.2.1, 160, .inl (gPf tB 40))), (wo, .inl (G.2.1, 96, .inl (gPf tW 96)))] sz) (q_X6_eRead_z8 G h0 cd he kd mo st ro tp sr ir ih ss sq ce lw wo sk na kp gb go fa ga vo (va_A [(cd, .inl (G.2.1, 1200, .inl (fun _ => 0))), (he, .inl (G.2.1, 200, .inl (fun _ => 0))), (h0, .inr (6, [.int 0, .ref kd, .ref mo, .ref st, .int 0, .ref ro, .ref tp, .int 40, .ref cd, .ref sr, .int 0, .int 0, .int 0, .ref ir, .ref ih, .ref ss, .ref sq, .ref ce, .ref lw, .int 5, .int 0, .int 3, .int 0, .ref wo, .ref he, .int 0, .int 0, .int 0, .ref sk, .ref na, .ref kp, .int 0, .int 0, .int 0, .int 0, .ref gb, .ref go, .ref fa, .ref ga, .int 0, .int 0, .ref vo])), (tp, .inl (G.2.1, 160, .inl (gPf tB 40))), (wo, .inl (G.2.1, 96, .inl (gPf tW 96)))] sz)) 0 0 (va_A [(cd, .inl (G.2.1, 1200, .inl (fun _ => 0))), (he, .inl (G.2.1, 200, .inl (fun _ => 0))), (h0, .inr (6, [.int 0, .ref kd, .ref mo, .ref st, .int 0, .ref ro, .ref tp, .int 40, .ref cd, .ref sr, .int 0, .int 0, .int 0, .ref ir, .ref ih, .ref ss, .ref sq, .ref ce, .ref lw, .int 5, .int 0, .int 3, .int 0, .ref wo, .ref he, .int 0, .int 0, .int 0, .ref sk, .ref na, .ref kp, .int 0, .int 0, .int 0, .int 0, .ref gb, .ref go, .ref fa, .ref ga, .int 0, .int 0, .ref vo])), (tp, .inl (G.2.1, 160, .inl (gPf tB 40))), (wo, .inl (G.2.1, 96, .inl (gPf tW 96)))] sz) := by
  refine Met.ofW (cc := cX6_eRead) (maxL := 4) (ret := (some .boolean)) (by decide) rfl ?_
  intro p e s m args below meth c s₁ B hml hv
  obtain ⟨rfl, hsz, hP, hK, hD0⟩ := hv
  have hx := B.exec
  have hb := B.bytes
  have hr := B.returns
  have hts := atoms_spec (ws := wsX6_eRead) B.pre
  have hown : s.vm.findClass RX6 = some m.cls := findClass_of_methodNamed B.named
  have hlocks := B.notSynchronized
  subst hsz
  have hD := hD0.self (sz := s.heap.size)
  generalize hAe : va_A [(cd, .inl (G.2.1, 1200, .inl (fun _ => 0))), (he, .inl (G.2.1, 200, .inl (fun _ => 0))), (h0, .inr (6, [.int 0, .ref kd, .ref mo, .ref st, .int 0, .ref ro, .ref tp, .int 40, .ref cd, .ref sr, .int 0, .int 0, .int 0, .ref ir, .ref ih, .ref ss, .ref sq, .ref ce, .ref lw, .int 5, .int 0, .int 3, .int 0, .ref wo, .ref he, .int 0, .int 0, .int 0, .ref sk, .ref na, .ref kp, .int 0, .int 0, .int 0, .int 0, .ref gb, .ref go, .ref fa, .ref ga, .int 0, .int 0, .ref vo])), (tp, .inl (G.2.1, 160, .inl (gPf tB 40))), (wo, .inl (G.2.1, 96, .inl (gPf tW 96)))] s.heap.size = A at hD ⊢
  have hA : ∀ q : Nat, s.heap.size ≤ q → A q := fun q h => by rw [← hAe]; exact Or.inr h
  have hS : va_S A s.heap s.heap [] := va_S.rf
  have hP : va_P G.1 vwCl [(cd, .inl (G.2.1, 1200, .inl (fun _ => 0))), (he, .inl (G.2.1, 200, .inl (fun _ => 0))), (h0, .inr (6, [.int 0, .ref kd, .ref mo, .ref st, .int 0, .ref ro, .ref tp, .int 40, .ref cd, .ref sr, .int 0, .int 0, .int 0, .ref ir, .ref ih, .ref ss, .ref sq, .ref ce, .ref lw, .int 5, .int 0, .int 3, .int 0, .ref wo, .ref he, .int 0, .int 0, .int 0, .ref sk, .ref na, .ref kp, .int 0, .int 0, .int 0, .int 0, .ref gb, .ref go, .ref fa, .ref ga, .int 0, .int 0, .ref vo])), (tp, .inl (G.2.1, 160, .inl (gPf tB 40))), (wo, .inl (G.2.1, 96, .inl (gPf tW 96)))] s.heap := hP
  have hD : va_D A [(cd, .inl (G.2.1, 1200, .inl (fun _ => 0))), (he, .inl (G.2.1, 200, .inl (fun _ => 0))), (h0, .inr (6, [.int 0, .ref kd, .ref mo, .ref st, .int 0, .ref ro, .ref tp, .int 40, .ref cd, .ref sr, .int 0, .int 0, .int 0, .ref ir, .ref ih, .ref ss, .ref sq, .ref ce, .ref lw, .int 5, .int 0, .int 3, .int 0, .ref wo, .ref he, .int 0, .int 0, .int 0, .ref sk, .ref na, .ref kp, .int 0, .int 0, .int 0, .int 0, .ref gb, .ref go, .ref fa, .ref ga, .int 0, .int 0, .ref vo])), (tp, .inl (G.2.1, 160, .inl (gPf tB 40))), (wo, .inl (G.2.1, 96, .inl (gPf tW 96)))] := hD
  have hl := lv_entry ([.ref h0]) (n := 4) (Nat.le_of_ble_eq_true rfl)
  rw [lg_entry_eq]
  generalize (lg_sl ([.ref h0]) ++ List.replicate (4 - (lg_sl ([.ref h0])).length) Slot.unset).toArray = ls at hl ⊢
  have hl : lv_has ls 4 [(0, .ref h0)] := hl
  have kf130 := hts (.fieldLink RX6 130 "PebbleInShoeModel" "heldMany" "I") (by decide +kernel)
  have hiX6 := (by decide +kernel : ∀ w ∈ wsX60, w ∈ wsX6_eRead)
  have kf137 := hts (.fieldLink RX6 137 "PebbleInShoeModel" "opens" "I") (by decide +kernel)
  have kf117 := hts (.fieldLink RX6 117 "PebbleInShoeModel" "token" "I") (by decide +kernel)
  have kf120 := hts (.fieldLink RX6 120 "PebbleInShoeModel" "value" "I") (by decide +kernel)
  refine lv_aload_n hx hb dX6_eRead_0 rfl (lv_at hl 0 rfl) ?_
  refine lv_iconst (v := 0) hx hb dX6_eRead_1 (by decide) ?_
  refine va_put (D := G.1) (ci := 6) (v := .int 0) (ty := .int) (C := RX6) (T := TX6) (N := 42) hx hb hts hiX6 tyX6 tyX6_ok nmX6 hown hK hP hD hS 2 rfl rfl 25 (by decide) kf130 (fun _ h9 => h9) rfl (by decide +kernel) rfl rfl (Nat.le_of_ble_eq_true rfl) dX6_eRead_2 (fun H locs hP hD hS => ?_)
  have hP : va_P G.1 vwCl [(cd, .inl (G.2.1, 1200, .inl (fun _ => 0))), (he, .inl (G.2.1, 200, .inl (fun _ => 0))), (h0, .inr (6, [.int 0, .ref kd, .ref mo, .ref st, .int 0, .ref ro, .ref tp, .int 40, .ref cd, .ref sr, .int 0, .int 0, .int 0, .ref ir, .ref ih, .ref ss, .ref sq, .ref ce, .ref lw, .int 5, .int 0, .int 3, .int 0, .ref wo, .ref he, .int 0, .int 0, .int 0, .ref sk, .ref na, .ref kp, .int 0, .int 0, .int 0, .int 0, .ref gb, .ref go, .ref fa, .ref ga, .int 0, .int 0, .ref vo])), (tp, .inl (G.2.1, 160, .inl (gPf tB 40))), (wo, .inl (G.2.1, 96, .inl (gPf tW 96)))] H := hP
  have hD : va_D A [(cd, .inl (G.2.1, 1200, .inl (fun _ => 0))), (he, .inl (G.2.1, 200, .inl (fun _ => 0))), (h0, .inr (6, [.int 0, .ref kd, .ref mo, .ref st, .int 0, .ref ro, .ref tp, .int 40, .ref cd, .ref sr, .int 0, .int 0, .int 0, .ref ir, .ref ih, .ref ss, .ref sq, .ref ce, .ref lw, .int 5, .int 0, .int 3, .int 0, .ref wo, .ref he, .int 0, .int 0, .int 0, .ref sk, .ref na, .ref kp, .int 0, .int 0, .int 0, .int 0, .ref gb, .ref go, .ref fa, .ref ga, .int 0, .int 0, .ref vo])), (tp, .inl (G.2.1, 160, .inl (gPf tB 40))), (wo, .inl (G.2.1, 96, .inl (gPf tW 96)))] := hD
  refine lv_aload_n hx hb dX6_eRead_5 rfl (lv_at hl 0 rfl) ?_
  refine lv_iconst (v := 0) hx hb dX6_eRead_6 (by decide) ?_
  refine va_put (D := G.1) (ci := 6) (v := .int 0) (ty := .int) (C := RX6) (T := TX6) (N := 42) hx hb hts hiX6 tyX6 tyX6_ok nmX6 hown hK hP hD hS 2 rfl rfl 26 (by decide) kf137 (fun _ h9 => h9) rfl (by decide +kernel) rfl rfl (Nat.le_of_ble_eq_true rfl) dX6_eRead_7 (fun H locs hP hD hS => ?_)
  have hP : va_P G.1 vwCl [(cd, .inl (G.2.1, 1200, .inl (fun _ => 0))), (he, .inl (G.2.1, 200, .inl (fun _ => 0))), (h0, .inr (6, [.int 0, .ref kd, .ref mo, .ref st, .int 0, .ref ro, .ref tp, .int 40, .ref cd, .ref sr, .int 0, .int 0, .int 0, .ref ir, .ref ih, .ref ss, .ref sq, .ref ce, .ref lw, .int 5, .int 0, .int 3, .int 0, .ref wo, .ref he, .int 0, .int 0, .int 0, .ref sk, .ref na, .ref kp, .int 0, .int 0, .int 0, .int 0, .ref gb, .ref go, .ref fa, .ref ga, .int 0, .int 0, .ref vo])), (tp, .inl (G.2.1, 160, .inl (gPf tB 40))), (wo, .inl (G.2.1, 96, .inl (gPf tW 96)))] H := hP
  have hD : va_D A [(cd, .inl (G.2.1, 1200, .inl (fun _ => 0))), (he, .inl (G.2.1, 200, .inl (fun _ => 0))), (h0, .inr (6, [.int 0, .ref kd, .ref mo, .ref st, .int 0, .ref ro, .ref tp, .int 40, .ref cd, .ref sr, .int 0, .int 0, .int 0, .ref ir, .ref ih, .ref ss, .ref sq, .ref ce, .ref lw, .int 5, .int 0, .int 3, .int 0, .ref wo, .ref he, .int 0, .int 0, .int 0, .ref sk, .ref na, .ref kp, .int 0, .int 0, .int 0, .int 0, .ref gb, .ref go, .ref fa, .ref ga, .int 0, .int 0, .ref vo])), (tp, .inl (G.2.1, 160, .inl (gPf tB 40))), (wo, .inl (G.2.1, 96, .inl (gPf tW 96)))] := hD
  refine lv_iconst (v := 1) hx hb dX6_eRead_10 (by decide) ?_
  refine lv_istore_n (lv' := [(1, .int 1), (0, .ref h0)]) hx hb dX6_eRead_11 rfl hl (by decide) rfl (fun ls hl => ?_)
  refine lv_iconst (v := 1) hx hb dX6_eRead_12 (by decide) ?_
  refine lv_istore_n (lv' := [(2, .int 1), (1, .int 1), (0, .ref h0)]) hx hb dX6_eRead_13 rfl hl (by decide) rfl (fun ls hl => ?_)
  refine lv_aload_n hx hb dX6_eRead_14 rfl (lv_at hl 2 rfl) ?_
  have hPc : va_P G.1 vwCl [(h0, .inr (6, [.int 0, .ref kd, .ref mo, .ref st, .int 0, .ref ro, .ref tp, .int 40, .ref cd, .ref sr, .int 0, .int 0, .int 0, .ref ir, .ref ih, .ref ss, .ref sq, .ref ce, .ref lw, .int 5, .int 0, .int 3, .int 0, .ref wo, .ref he, .int 0, .int 0, .int 0, .ref sk, .ref na, .ref kp, .int 0, .int 0, .int 0, .int 0, .ref gb, .ref go, .ref fa, .ref ga, .int 0, .int 0, .ref vo])), (tp, .inl (G.2.1, 160, .inl (gPf tB 40))), (wo, .inl (G.2.1, 96, .inl (gPf tW 96)))] H := hP.sub [2, 3, 4] rfl
  have hDc : va_D A [(h0, .inr (6, [.int 0, .ref kd, .ref mo, .ref st, .int 0, .ref ro, .ref tp, .int 40, .ref cd, .ref sr, .int 0, .int 0, .int 0, .ref ir, .ref ih, .ref ss, .ref sq, .ref ce, .ref lw, .int 5, .int 0, .int 3, .int 0, .ref wo, .ref he, .int 0, .int 0, .int 0, .ref sk, .ref na, .ref kp, .int 0, .int 0, .int 0, .int 0, .ref gb, .ref go, .ref fa, .ref ga, .int 0, .int 0, .ref vo])), (tp, .inl (G.2.1, 160, .inl (gPf tB 40))), (wo, .inl (G.2.1, 96, .inl (gPf tW 96)))] := hD.sub [2, 3, 4] (by decide) rfl
  have hFc := va_free (wc := [(h0, .inr (6, [.int 0, .ref kd, .ref mo, .ref st, .int 0, .ref ro, .ref tp, .int 40, .ref cd, .ref sr, .int 0, .int 0, .int 0, .ref ir, .ref ih, .ref ss, .ref sq, .ref ce, .ref lw, .int 5, .int 0, .int 3, .int 0, .ref wo, .ref he, .int 0, .int 0, .int 0, .ref sk, .ref na, .ref kp, .int 0, .int 0, .int 0, .int 0, .ref gb, .ref go, .ref fa, .ref ga, .int 0, .int 0, .ref vo])), (tp, .inl (G.2.1, 160, .inl (gPf tB 40))), (wo, .inl (G.2.1, 96, .inl (gPf tW 96)))]) hD hS hA [2, 3, 4] rfl
  refine va_callv (va_runV (As := []) (rest := []) ⟨hx, hb, hml, hown, hts⟩ (c_X6_next_z9 l G h0 kd mo st ro tp cd sr ir ih ss sq ce lw wo he sk na kp gb go fa ga vo H.size) (cwV 0 hts gX6_eRead_X6_next rfl rfl rfl (by decide +kernel) ⟨Nat.le_of_ble_eq_true rfl, Nat.le_of_ble_eq_true rfl⟩) ⟨gPre_blind, va_recv hK hPc (ci := 6) (q0 := 0) rfl rfl, fun U hU hW => gPre_of hU hW hK hPc hDc⟩ rfl rfl hl.1 rfl (lv_room (Nat.le_of_ble_eq_true rfl)) dX6_eRead_15 ⟨Nat.le_of_ble_eq_true rfl, Nat.le_of_ble_eq_true rfl⟩) hS (fun q _ h => hFc q h) hFc (fun u t H locs ht hvm w_2 hB hz1 hk1 hS => ?_)
  obtain ⟨hP1, hK1, hD1⟩ := hB
  rw [ht] at hP1
  have hP1 : va_P G.1 vwCl [(h0, .inr (6, [.int 0, .ref kd, .ref mo, .ref st, .int 0, .ref ro, .ref tp, .int 40, .ref cd, .ref sr, .int 0, .int 0, .int 0, .ref ir, .ref ih, .ref ss, .ref sq, .ref ce, .ref lw, .int 10, .int 6, .int 2, .int 0, .ref wo, .ref he, .int 0, .int 0, .int 0, .ref sk, .ref na, .ref kp, .int 0, .int 0, .int 0, .int 0, .ref gb, .ref go, .ref fa, .ref ga, .int 0, .int 0, .ref vo])), (tp, .inl (G.2.1, 160, .inl (gPf tB 40))), (wo, .inl (G.2.1, 96, .inl (gPf tW 96)))] H := hP1
  have hD1 : va_D (va_A [(h0, .inr (6, [.int 0, .ref kd, .ref mo, .ref st, .int 0, .ref ro, .ref tp, .int 40, .ref cd, .ref sr, .int 0, .int 0, .int 0, .ref ir, .ref ih, .ref ss, .ref sq, .ref ce, .ref lw, .int 5, .int 0, .int 3, .int 0, .ref wo, .ref he, .int 0, .int 0, .int 0, .ref sk, .ref na, .ref kp, .int 0, .int 0, .int 0, .int 0, .ref gb, .ref go, .ref fa, .ref ga, .int 0, .int 0, .ref vo])), (tp, .inl (G.2.1, 160, .inl (gPf tB 40))), (wo, .inl (G.2.1, 96, .inl (gPf tW 96)))] _) [(h0, .inr (6, [.int 0, .ref kd, .ref mo, .ref st, .int 0, .ref ro, .ref tp, .int 40, .ref cd, .ref sr, .int 0, .int 0, .int 0, .ref ir, .ref ih, .ref ss, .ref sq, .ref ce, .ref lw, .int 10, .int 6, .int 2, .int 0, .ref wo, .ref he, .int 0, .int 0, .int 0, .ref sk, .ref na, .ref kp, .int 0, .int 0, .int 0, .int 0, .ref gb, .ref go, .ref fa, .ref ga, .int 0, .int 0, .ref vo])), (tp, .inl (G.2.1, 160, .inl (gPf tB 40))), (wo, .inl (G.2.1, 96, .inl (gPf tW 96)))] := hD1
  obtain ⟨hP, hD⟩ := va_join (wr := [(cd, .inl (G.2.1, 1200, .inl (fun _ => 0))), (he, .inl (G.2.1, 200, .inl (fun _ => 0)))]) (w1 := [(h0, .inr (6, [.int 0, .ref kd, .ref mo, .ref st, .int 0, .ref ro, .ref tp, .int 40, .ref cd, .ref sr, .int 0, .int 0, .int 0, .ref ir, .ref ih, .ref ss, .ref sq, .ref ce, .ref lw, .int 10, .int 6, .int 2, .int 0, .ref wo, .ref he, .int 0, .int 0, .int 0, .ref sk, .ref na, .ref kp, .int 0, .int 0, .int 0, .int 0, .ref gb, .ref go, .ref fa, .ref ga, .int 0, .int 0, .ref vo])), (tp, .inl (G.2.1, 160, .inl (gPf tB 40))), (wo, .inl (G.2.1, 96, .inl (gPf tW 96)))]) hP hD [2, 3, 4] [0, 1] rfl rfl (by decide) (by decide) hk1 hFc hP1 hD1
  have hP : va_P G.1 vwCl [(cd, .inl (G.2.1, 1200, .inl (fun _ => 0))), (he, .inl (G.2.1, 200, .inl (fun _ => 0))), (h0, .inr (6, [.int 0, .ref kd, .ref mo, .ref st, .int 0, .ref ro, .ref tp, .int 40, .ref cd, .ref sr, .int 0, .int 0, .int 0, .ref ir, .ref ih, .ref ss, .ref sq, .ref ce, .ref lw, .int 10, .int 6, .int 2, .int 0, .ref wo, .ref he, .int 0, .int 0, .int 0, .ref sk, .ref na, .ref kp, .int 0, .int 0, .int 0, .int 0, .ref gb, .ref go, .ref fa, .ref ga, .int 0, .int 0, .ref vo])), (tp, .inl (G.2.1, 160, .inl (gPf tB 40))), (wo, .inl (G.2.1, 96, .inl (gPf tW 96)))] H := hP
  have hD : va_D A [(cd, .inl (G.2.1, 1200, .inl (fun _ => 0))), (he, .inl (G.2.1, 200, .inl (fun _ => 0))), (h0, .inr (6, [.int 0, .ref kd, .ref mo, .ref st, .int 0, .ref ro, .ref tp, .int 40, .ref cd, .ref sr, .int 0, .int 0, .int 0, .ref ir, .ref ih, .ref ss, .ref sq, .ref ce, .ref lw, .int 10, .int 6, .int 2, .int 0, .ref wo, .ref he, .int 0, .int 0, .int 0, .ref sk, .ref na, .ref kp, .int 0, .int 0, .int 0, .int 0, .ref gb, .ref go, .ref fa, .ref ga, .int 0, .int 0, .ref vo])), (tp, .inl (G.2.1, 160, .inl (gPf tB 40))), (wo, .inl (G.2.1, 96, .inl (gPf tW 96)))] := hD
  refine lv_iload_n hx hb dX6_eRead_18 rfl (lv_at hl 1 rfl) ?_
  refine lv_if_eq (tgt := 150) hx hb dX6_eRead_19 (by decide) (fun c_3 => ?_) (fun c_3 => ?_)
  · exact absurd c_3 (by decide)
  refine lv_aload_n hx hb dX6_eRead_22 rfl (lv_at hl 2 rfl) ?_
  refine va_get (D := G.1) (ci := 6) (v := .int 2) (C := RX6) (T := TX6) (N := 42) hx hb hts hiX6 hown hK hP 2 rfl rfl 21 (by decide) kf117 (fun _ h9 => h9) rfl dX6_eRead_23 ?_
  refine lv_iconst (v := 1) hx hb dX6_eRead_26 (by decide) ?_
  refine lv_icmp_eq (tgt := 38) hx hb dX6_eRead_27 (by decide) (fun c_4 => ?_) (fun c_4 => ?_)
  · exact absurd c_4 (by decide)
  refine lv_aload_n hx hb dX6_eRead_30 rfl (lv_at hl 2 rfl) ?_
  refine va_get (D := G.1) (ci := 6) (v := .int 2) (C := RX6) (T := TX6) (N := 42) hx hb hts hiX6 hown hK hP 2 rfl rfl 21 (by decide) kf117 (fun _ h9 => h9) rfl dX6_eRead_31 ?_
  refine lv_iconst (v := 2) hx hb dX6_eRead_34 (by decide) ?_
  refine lv_icmp_ne (tgt := 75) hx hb dX6_eRead_35 (by decide) (fun c_5 => ?_) (fun c_5 => ?_)
  · exact absurd (by decide) c_5
  refine lv_aload_n hx hb dX6_eRead_38 rfl (lv_at hl 2 rfl) ?_
  refine lv_aload_n hx hb dX6_eRead_39 rfl (lv_at hl 2 rfl) ?_
  refine va_get (D := G.1) (ci := 6) (v := .int 2) (C := RX6) (T := TX6) (N := 42) hx hb hts hiX6 hown hK hP 2 rfl rfl 21 (by decide) kf117 (fun _ h9 => h9) rfl dX6_eRead_40 ?_
  refine lv_iconst (v := 1) hx hb dX6_eRead_43 (by decide) ?_
  refine lv_icmp_ne (tgt := 57) hx hb dX6_eRead_44 (by decide) (fun c_6 => ?_) (fun c_6 => ?_)
  rotate_left
  · exact absurd c_6 (by decide)
  refine lv_aload_n hx hb dX6_eRead_57 rfl (lv_at hl 2 rfl) ?_
  refine va_get (D := G.1) (ci := 6) (v := .int 0) (C := RX6) (T := TX6) (N := 42) hx hb hts hiX6 hown hK hP 2 rfl rfl 22 (by decide) kf120 (fun _ h9 => h9) rfl dX6_eRead_58 ?_
  have hPc : va_P G.1 vwCl [(cd, .inl (G.2.1, 1200, .inl (fun _ => 0))), (h0, .inr (6, [.int 0, .ref kd, .ref mo, .ref st, .int 0, .ref ro, .ref tp, .int 40, .ref cd, .ref sr, .int 0, .int 0, .int 0, .ref ir, .ref ih, .ref ss, .ref sq, .ref ce, .ref lw, .int 10, .int 6, .int 2, .int 0, .ref wo, .ref he, .int 0, .int 0, .int 0, .ref sk, .ref na, .ref kp, .int 0, .int 0, .int 0, .int 0, .ref gb, .ref go, .ref fa, .ref ga, .int 0, .int 0, .ref vo]))] H := hP.sub [0, 2] rfl
  have hDc : va_D A [(cd, .inl (G.2.1, 1200, .inl (fun _ => 0))), (h0, .inr (6, [.int 0, .ref kd, .ref mo, .ref st, .int 0, .ref ro, .ref tp, .int 40, .ref cd, .ref sr, .int 0, .int 0, .int 0, .ref ir, .ref ih, .ref ss, .ref sq, .ref ce, .ref lw, .int 10, .int 6, .int 2, .int 0, .ref wo, .ref he, .int 0, .int 0, .int 0, .ref sk, .ref na, .ref kp, .int 0, .int 0, .int 0, .int 0, .ref gb, .ref go, .ref fa, .ref ga, .int 0, .int 0, .ref vo]))] := hD.sub [0, 2] (by decide) rfl
  have hFc := va_free (wc := [(cd, .inl (G.2.1, 1200, .inl (fun _ => 0))), (h0, .inr (6, [.int 0, .ref kd, .ref mo, .ref st, .int 0, .ref ro, .ref tp, .int 40, .ref cd, .ref sr, .int 0, .int 0, .int 0, .ref ir, .ref ih, .ref ss, .ref sq, .ref ce, .ref lw, .int 10, .int 6, .int 2, .int 0, .ref wo, .ref he, .int 0, .int 0, .int 0, .ref sk, .ref na, .ref kp, .int 0, .int 0, .int 0, .int 0, .ref gb, .ref go, .ref fa, .ref ga, .int 0, .int 0, .ref vo]))]) hD hS hA [0, 2] rfl
  refine va_callv (va_runV (As := [.int 0]) (rest := []) ⟨hx, hb, hml, hown, hts⟩ (c_X6_puts_z13 l G h0 cd kd mo st ro tp sr ir ih ss sq ce lw wo he sk na kp gb go fa ga vo H.size) (cwV 1 hts gX6_eRead_X6_puts rfl rfl rfl (by decide +kernel) ⟨Nat.le_of_ble_eq_true rfl, Nat.le_of_ble_eq_true rfl⟩) ⟨gPre_blind, va_recv hK hPc (ci := 6) (q0 := 1) rfl rfl, fun U hU hW => gPre_of hU hW hK hPc hDc⟩ rfl rfl hl.1 rfl (lv_room (Nat.le_of_ble_eq_true rfl)) dX6_eRead_61 ⟨Nat.le_of_ble_eq_true rfl, Nat.le_of_ble_eq_true rfl⟩) hS (fun q _ h => hFc q h) hFc (fun u t H locs ht hvm w_8 hB hz1 hk1 hS => ?_)
  obtain ⟨hP1, hK1, hD1⟩ := hB
  rw [ht] at hP1
  have hP1 : va_P G.1 vwCl [(cd, .inl (G.2.1, 1200, .inl (upd (fun _ => 0) 0 0))), (h0, .inr (6, [.int 0, .ref kd, .ref mo, .ref st, .int 0, .ref ro, .ref tp, .int 40, .ref cd, .ref sr, .int 0, .int 0, .int 0, .ref ir, .ref ih, .ref ss, .ref sq, .ref ce, .ref lw, .int 10, .int 6, .int 2, .int 0, .ref wo, .ref he, .int 0, .int 0, .int 1, .ref sk, .ref na, .ref kp, .int 0, .int 0, .int 0, .int 0, .ref gb, .ref go, .ref fa, .ref ga, .int 0, .int 0, .ref vo]))] H := hP1
  have hD1 : va_D (va_A [(cd, .inl (G.2.1, 1200, .inl (fun _ => 0))), (h0, .inr (6, [.int 0, .ref kd, .ref mo, .ref st, .int 0, .ref ro, .ref tp, .int 40, .ref cd, .ref sr, .int 0, .int 0, .int 0, .ref ir, .ref ih, .ref ss, .ref sq, .ref ce, .ref lw, .int 10, .int 6, .int 2, .int 0, .ref wo, .ref he, .int 0, .int 0, .int 0, .ref sk, .ref na, .ref kp, .int 0, .int 0, .int 0, .int 0, .ref gb, .ref go, .ref fa, .ref ga, .int 0, .int 0, .ref vo]))] _) [(cd, .inl (G.2.1, 1200, .inl (upd (fun _ => 0) 0 0))), (h0, .inr (6, [.int 0, .ref kd, .ref mo, .ref st, .int 0, .ref ro, .ref tp, .int 40, .ref cd, .ref sr, .int 0, .int 0, .int 0, .ref ir, .ref ih, .ref ss, .ref sq, .ref ce, .ref lw, .int 10, .int 6, .int 2, .int 0, .ref wo, .ref he, .int 0, .int 0, .int 1, .ref sk, .ref na, .ref kp, .int 0, .int 0, .int 0, .int 0, .ref gb, .ref go, .ref fa, .ref ga, .int 0, .int 0, .ref vo]))] := hD1
  obtain ⟨hP, hD⟩ := va_join (wr := [(he, .inl (G.2.1, 200, .inl (fun _ => 0))), (tp, .inl (G.2.1, 160, .inl (gPf tB 40))), (wo, .inl (G.2.1, 96, .inl (gPf tW 96)))]) (w1 := [(cd, .inl (G.2.1, 1200, .inl (upd (fun _ => 0) 0 0))), (h0, .inr (6, [.int 0, .ref kd, .ref mo, .ref st, .int 0, .ref ro, .ref tp, .int 40, .ref cd, .ref sr, .int 0, .int 0, .int 0, .ref ir, .ref ih, .ref ss, .ref sq, .ref ce, .ref lw, .int 10, .int 6, .int 2, .int 0, .ref wo, .ref he, .int 0, .int 0, .int 1, .ref sk, .ref na, .ref kp, .int 0, .int 0, .int 0, .int 0, .ref gb, .ref go, .ref fa, .ref ga, .int 0, .int 0, .ref vo]))]) hP hD [0, 2] [1, 3, 4] rfl rfl (by decide) (by decide) hk1 hFc hP1 hD1
  have hP : va_P G.1 vwCl [(he, .inl (G.2.1, 200, .inl (fun _ => 0))), (tp, .inl (G.2.1, 160, .inl (gPf tB 40))), (wo, .inl (G.2.1, 96, .inl (gPf tW 96))), (cd, .inl (G.2.1, 1200, .inl (upd (fun _ => 0) 0 0))), (h0, .inr (6, [.int 0, .ref kd, .ref mo, .ref st, .int 0, .ref ro, .ref tp, .int 40, .ref cd, .ref sr, .int 0, .int 0, .int 0, .ref ir, .ref ih, .ref ss, .ref sq, .ref ce, .ref lw, .int 10, .int 6, .int 2, .int 0, .ref wo, .ref he, .int 0, .int 0, .int 1, .ref sk, .ref na, .ref kp, .int 0, .int 0, .int 0, .int 0, .ref gb, .ref go, .ref fa, .ref ga, .int 0, .int 0, .ref vo]))] H := hP
  have hD : va_D A [(he, .inl (G.2.1, 200, .inl (fun _ => 0))), (tp, .inl (G.2.1, 160, .inl (gPf tB 40))), (wo, .inl (G.2.1, 96, .inl (gPf tW 96))), (cd, .inl (G.2.1, 1200, .inl (upd (fun _ => 0) 0 0))), (h0, .inr (6, [.int 0, .ref kd, .ref mo, .ref st, .int 0, .ref ro, .ref tp, .int 40, .ref cd, .ref sr, .int 0, .int 0, .int 0, .ref ir, .ref ih, .ref ss, .ref sq, .ref ce, .ref lw, .int 10, .int 6, .int 2, .int 0, .ref wo, .ref he, .int 0, .int 0, .int 1, .ref sk, .ref na, .ref kp, .int 0, .int 0, .int 0, .int 0, .ref gb, .ref go, .ref fa, .ref ga, .int 0, .int 0, .ref vo]))] := hD
  refine lv_aload_n hx hb dX6_eRead_64 rfl (lv_at hl 2 rfl) ?_
  refine lv_bipush (v := 7) hx hb dX6_eRead_65 (by decide) ?_
  have hPc : va_P G.1 vwCl [(he, .inl (G.2.1, 200, .inl (fun _ => 0))), (cd, .inl (G.2.1, 1200, .inl (upd (fun _ => 0) 0 0))), (h0, .inr (6, [.int 0, .ref kd, .ref mo, .ref st, .int 0, .ref ro, .ref tp, .int 40, .ref cd, .ref sr, .int 0, .int 0, .int 0, .ref ir, .ref ih, .ref ss, .ref sq, .ref ce, .ref lw, .int 10, .int 6, .int 2, .int 0, .ref wo, .ref he, .int 0, .int 0, .int 1, .ref sk, .ref na, .ref kp, .int 0, .int 0, .int 0, .int 0, .ref gb, .ref go, .ref fa, .ref ga, .int 0, .int 0, .ref vo]))] H := hP.sub [0, 3, 4] rfl
  have hDc : va_D A [(he, .inl (G.2.1, 200, .inl (fun _ => 0))), (cd, .inl (G.2.1, 1200, .inl (upd (fun _ => 0) 0 0))), (h0, .inr (6, [.int 0, .ref kd, .ref mo, .ref st, .int 0, .ref ro, .ref tp, .int 40, .ref cd, .ref sr, .int 0, .int 0, .int 0, .ref ir, .ref ih, .ref ss, .ref sq, .ref ce, .ref lw, .int 10, .int 6, .int 2, .int 0, .ref wo, .ref he, .int 0, .int 0, .int 1, .ref sk, .ref na, .ref kp, .int 0, .int 0, .int 0, .int 0, .ref gb, .ref go, .ref fa, .ref ga, .int 0, .int 0, .ref vo]))] := hD.sub [0, 3, 4] (by decide) rfl
  have hFc := va_free (wc := [(he, .inl (G.2.1, 200, .inl (fun _ => 0))), (cd, .inl (G.2.1, 1200, .inl (upd (fun _ => 0) 0 0))), (h0, .inr (6, [.int 0, .ref kd, .ref mo, .ref st, .int 0, .ref ro, .ref tp, .int 40, .ref cd, .ref sr, .int 0, .int 0, .int 0, .ref ir, .ref ih, .ref ss, .ref sq, .ref ce, .ref lw, .int 10, .int 6, .int 2, .int 0, .ref wo, .ref he, .int 0, .int 0, .int 1, .ref sk, .ref na, .ref kp, .int 0, .int 0, .int 0, .int 0, .ref gb, .ref go, .ref fa, .ref ga, .int 0, .int 0, .ref vo]))]) hD hS hA [0, 3, 4] rfl
  refine va_callv (va_runV (As := [.int 7]) (rest := []) ⟨hx, hb, hml, hown, hts⟩ (c_X6_unwinds_z14 l G h0 he cd kd mo st ro tp sr ir ih ss sq ce lw wo sk na kp gb go fa ga vo H.size) (cwV 1 hts gX6_eRead_X6_unwinds rfl rfl rfl (by decide +kernel) ⟨Nat.le_of_ble_eq_true rfl, Nat.le_of_ble_eq_true rfl⟩) ⟨gPre_blind, va_recv hK hPc (ci := 6) (q0 := 2) rfl rfl, fun U hU hW => gPre_of hU hW hK hPc hDc⟩ rfl rfl hl.1 rfl (lv_room (Nat.le_of_ble_eq_true rfl)) dX6_eRead_67 ⟨Nat.le_of_ble_eq_true rfl, Nat.le_of_ble_eq_true rfl⟩) hS (fun q _ h => hFc q h) hFc (fun u t H locs ht hvm w_10 hB hz1 hk1 hS => ?_)
  obtain ⟨hP1, hK1, hD1⟩ := hB
  rw [ht] at hP1
  have hP1 : va_P G.1 vwCl [(he, .inl (G.2.1, 200, .inl (fun _ => 0))), (cd, .inl (G.2.1, 1200, .inl (upd (fun _ => 0) 0 0))), (h0, .inr (6, [.int 0, .ref kd, .ref mo, .ref st, .int 0, .ref ro, .ref tp, .int 40, .ref cd, .ref sr, .int 0, .int 0, .int 0, .ref ir, .ref ih, .ref ss, .ref sq, .ref ce, .ref lw, .int 10, .int 6, .int 2, .int 0, .ref wo, .ref he, .int 0, .int 0, .int 1, .ref sk, .ref na, .ref kp, .int 0, .int 0, .int 0, .int 0, .ref gb, .ref go, .ref fa, .ref ga, .int 0, .int 0, .ref vo]))] H := hP1
  have hD1 : va_D (va_A [(he, .inl (G.2.1, 200, .inl (fun _ => 0))), (cd, .inl (G.2.1, 1200, .inl (upd (fun _ => 0) 0 0))), (h0, .inr (6, [.int 0, .ref kd, .ref mo, .ref st, .int 0, .ref ro, .ref tp, .int 40, .ref cd, .ref sr, .int 0, .int 0, .int 0, .ref ir, .ref ih, .ref ss, .ref sq, .ref ce, .ref lw, .int 10, .int 6, .int 2, .int 0, .ref wo, .ref he, .int 0, .int 0, .int 1, .ref sk, .ref na, .ref kp, .int 0, .int 0, .int 0, .int 0, .ref gb, .ref go, .ref fa, .ref ga, .int 0, .int 0, .ref vo]))] _) [(he, .inl (G.2.1, 200, .inl (fun _ => 0))), (cd, .inl (G.2.1, 1200, .inl (upd (fun _ => 0) 0 0))), (h0, .inr (6, [.int 0, .ref kd, .ref mo, .ref st, .int 0, .ref ro, .ref tp, .int 40, .ref cd, .ref sr, .int 0, .int 0, .int 0, .ref ir, .ref ih, .ref ss, .ref sq, .ref ce, .ref lw, .int 10, .int 6, .int 2, .int 0, .ref wo, .ref he, .int 0, .int 0, .int 1, .ref sk, .ref na, .ref kp, .int 0, .int 0, .int 0, .int 0, .ref gb, .ref go, .ref fa, .ref ga, .int 0, .int 0, .ref vo]))] := hD1
  obtain ⟨hP, hD⟩ := va_join (wr := [(tp, .inl (G.2.1, 160, .inl (gPf tB 40))), (wo, .inl (G.2.1, 96, .inl (gPf tW 96)))]) (w1 := [(he, .inl (G.2.1, 200, .inl (fun _ => 0))), (cd, .inl (G.2.1, 1200, .inl (upd (fun _ => 0) 0 0))), (h0, .inr (6, [.int 0, .ref kd, .ref mo, .ref st, .int 0, .ref ro, .ref tp, .int 40, .ref cd, .ref sr, .int 0, .int 0, .int 0, .ref ir, .ref ih, .ref ss, .ref sq, .ref ce, .ref lw, .int 10, .int 6, .int 2, .int 0, .ref wo, .ref he, .int 0, .int 0, .int 1, .ref sk, .ref na, .ref kp, .int 0, .int 0, .int 0, .int 0, .ref gb, .ref go, .ref fa, .ref ga, .int 0, .int 0, .ref vo]))]) hP hD [0, 3, 4] [1, 2] rfl rfl (by decide) (by decide) hk1 hFc hP1 hD1
  have hP : va_P G.1 vwCl [(tp, .inl (G.2.1, 160, .inl (gPf tB 40))), (wo, .inl (G.2.1, 96, .inl (gPf tW 96))), (he, .inl (G.2.1, 200, .inl (fun _ => 0))), (cd, .inl (G.2.1, 1200, .inl (upd (fun _ => 0) 0 0))), (h0, .inr (6, [.int 0, .ref kd, .ref mo, .ref st, .int 0, .ref ro, .ref tp, .int 40, .ref cd, .ref sr, .int 0, .int 0, .int 0, .ref ir, .ref ih, .ref ss, .ref sq, .ref ce, .ref lw, .int 10, .int 6, .int 2, .int 0, .ref wo, .ref he, .int 0, .int 0, .int 1, .ref sk, .ref na, .ref kp, .int 0, .int 0, .int 0, .int 0, .ref gb, .ref go, .ref fa, .ref ga, .int 0, .int 0, .ref vo]))] H := hP
  have hD : va_D A [(tp, .inl (G.2.1, 160, .inl (gPf tB 40))), (wo, .inl (G.2.1, 96, .inl (gPf tW 96))), (he, .inl (G.2.1, 200, .inl (fun _ => 0))), (cd, .inl (G.2.1, 1200, .inl (upd (fun _ => 0) 0 0))), (h0, .inr (6, [.int 0, .ref kd, .ref mo, .ref st, .int 0, .ref ro, .ref tp, .int 40, .ref cd, .ref sr, .int 0, .int 0, .int 0, .ref ir, .ref ih, .ref ss, .ref sq, .ref ce, .ref lw, .int 10, .int 6, .int 2, .int 0, .ref wo, .ref he, .int 0, .int 0, .int 1, .ref sk, .ref na, .ref kp, .int 0, .int 0, .int 0, .int 0, .ref gb, .ref go, .ref fa, .ref ga, .int 0, .int 0, .ref vo]))] := hD
  refine lv_iconst (v := 0) hx hb dX6_eRead_70 (by decide) ?_
  refine lv_istore_n (lv' := [(1, .int 0), (2, .int 1), (0, .ref h0)]) hx hb dX6_eRead_71 rfl hl (by decide) rfl (fun ls hl => ?_)
  refine lv_goto (tgt := 14) hx hb dX6_eRead_72 (by decide) ?_
  refine lv_aload_n hx hb dX6_eRead_14 rfl (lv_at hl 2 rfl) ?_
  have hPc : va_P G.1 vwCl [(tp, .inl (G.2.1, 160, .inl (gPf tB 40))), (wo, .inl (G.2.1, 96, .inl (gPf tW 96))), (h0, .inr (6, [.int 0, .ref kd, .ref mo, .ref st, .int 0, .ref ro, .ref tp, .int 40, .ref cd, .ref sr, .int 0, .int 0, .int 0, .ref ir, .ref ih, .ref ss, .ref sq, .ref ce, .ref lw, .int 10, .int 6, .int 2, .int 0, .ref wo, .ref he, .int 0, .int 0, .int 1, .ref sk, .ref na, .ref kp, .int 0, .int 0, .int 0, .int 0, .ref gb, .ref go, .ref fa, .ref ga, .int 0, .int 0, .ref vo]))] H := hP.sub [0, 1, 4] rfl
  have hDc : va_D A [(tp, .inl (G.2.1, 160, .inl (gPf tB 40))), (wo, .inl (G.2.1, 96, .inl (gPf tW 96))), (h0, .inr (6, [.int 0, .ref kd, .ref mo, .ref st, .int 0, .ref ro, .ref tp, .int 40, .ref cd, .ref sr, .int 0, .int 0, .int 0, .ref ir, .ref ih, .ref ss, .ref sq, .ref ce, .ref lw, .int 10, .int 6, .int 2, .int 0, .ref wo, .ref he, .int 0, .int 0, .int 1, .ref sk, .ref na, .ref kp, .int 0, .int 0, .int 0, .int 0, .ref gb, .ref go, .ref fa, .ref ga, .int 0, .int 0, .ref vo]))] := hD.sub [0, 1, 4] (by decide) rfl
  have hFc := va_free (wc := [(tp, .inl (G.2.1, 160, .inl (gPf tB 40))), (wo, .inl (G.2.1, 96, .inl (gPf tW 96))), (h0, .inr (6, [.int 0, .ref kd, .ref mo, .ref st, .int 0, .ref ro, .ref tp, .int 40, .ref cd, .ref sr, .int 0, .int 0, .int 0, .ref ir, .ref ih, .ref ss, .ref sq, .ref ce, .ref lw, .int 10, .int 6, .int 2, .int 0, .ref wo, .ref he, .int 0, .int 0, .int 1, .ref sk, .ref na, .ref kp, .int 0, .int 0, .int 0, .int 0, .ref gb, .ref go, .ref fa, .ref ga, .int 0, .int 0, .ref vo]))]) hD hS hA [0, 1, 4] rfl
  refine va_callv (va_runV (As := []) (rest := []) ⟨hx, hb, hml, hown, hts⟩ (c_X6_next_z15 l G h0 tp wo kd mo st ro cd sr ir ih ss sq ce lw he sk na kp gb go fa ga vo H.size) (cwV 0 hts gX6_eRead_X6_next rfl rfl rfl (by decide +kernel) ⟨Nat.le_of_ble_eq_true rfl, Nat.le_of_ble_eq_true rfl⟩) ⟨gPre_blind, va_recv hK hPc (ci := 6) (q0 := 2) rfl rfl, fun U hU hW => gPre_of hU hW hK hPc hDc⟩ rfl rfl hl.1 rfl (lv_room (Nat.le_of_ble_eq_true rfl)) dX6_eRead_15 ⟨Nat.le_of_ble_eq_true rfl, Nat.le_of_ble_eq_true rfl⟩) hS (fun q _ h => hFc q h) hFc (fun u t H locs ht hvm w_12 hB hz1 hk1 hS => ?_)
  obtain ⟨hP1, hK1, hD1⟩ := hB
  rw [ht] at hP1
  have hP1 : va_P G.1 vwCl [(tp, .inl (G.2.1, 160, .inl (gPf tB 40))), (wo, .inl (G.2.1, 96, .inl (gPf tW 96))), (h0, .inr (6, [.int 0, .ref kd, .ref mo, .ref st, .int 0, .ref ro, .ref tp, .int 40, .ref cd, .ref sr, .int 0, .int 0, .int 0, .ref ir, .ref ih, .ref ss, .ref sq, .ref ce, .ref lw, .int 12, .int 11, .int 45, .int 0, .ref wo, .ref he, .int 0, .int 0, .int 1, .ref sk, .ref na, .ref kp, .int 0, .int 0, .int 0, .int 0, .ref gb, .ref go, .ref fa, .ref ga, .int 0, .int 0, .ref vo]))] H := hP1
  have hD1 : va_D (va_A [(tp, .inl (G.2.1, 160, .inl (gPf tB 40))), (wo, .inl (G.2.1, 96, .inl (gPf tW 96))), (h0, .inr (6, [.int 0, .ref kd, .ref mo, .ref st, .int 0, .ref ro, .ref tp, .int 40, .ref cd, .ref sr, .int 0, .int 0, .int 0, .ref ir, .ref ih, .ref ss, .ref sq, .ref ce, .ref lw, .int 10, .int 6, .int 2, .int 0, .ref wo, .ref he, .int 0, .int 0, .int 1, .ref sk, .ref na, .ref kp, .int 0, .int 0, .int 0, .int 0, .ref gb, .ref go, .ref fa, .ref ga, .int 0, .int 0, .ref vo]))] _) [(tp, .inl (G.2.1, 160, .inl (gPf tB 40))), (wo, .inl (G.2.1, 96, .inl (gPf tW 96))), (h0, .inr (6, [.int 0, .ref kd, .ref mo, .ref st, .int 0, .ref ro, .ref tp, .int 40, .ref cd, .ref sr, .int 0, .int 0, .int 0, .ref ir, .ref ih, .ref ss, .ref sq, .ref ce, .ref lw, .int 12, .int 11, .int 45, .int 0, .ref wo, .ref he, .int 0, .int 0, .int 1, .ref sk, .ref na, .ref kp, .int 0, .int 0, .int 0, .int 0, .ref gb, .ref go, .ref fa, .ref ga, .int 0, .int 0, .ref vo]))] := hD1
  obtain ⟨hP, hD⟩ := va_join (wr := [(he, .inl (G.2.1, 200, .inl (fun _ => 0))), (cd, .inl (G.2.1, 1200, .inl (upd (fun _ => 0) 0 0)))]) (w1 := [(tp, .inl (G.2.1, 160, .inl (gPf tB 40))), (wo, .inl (G.2.1, 96, .inl (gPf tW 96))), (h0, .inr (6, [.int 0, .ref kd, .ref mo, .ref st, .int 0, .ref ro, .ref tp, .int 40, .ref cd, .ref sr, .int 0, .int 0, .int 0, .ref ir, .ref ih, .ref ss, .ref sq, .ref ce, .ref lw, .int 12, .int 11, .int 45, .int 0, .ref wo, .ref he, .int 0, .int 0, .int 1, .ref sk, .ref na, .ref kp, .int 0, .int 0, .int 0, .int 0, .ref gb, .ref go, .ref fa, .ref ga, .int 0, .int 0, .ref vo]))]) hP hD [0, 1, 4] [2, 3] rfl rfl (by decide) (by decide) hk1 hFc hP1 hD1
  have hP : va_P G.1 vwCl [(he, .inl (G.2.1, 200, .inl (fun _ => 0))), (cd, .inl (G.2.1, 1200, .inl (upd (fun _ => 0) 0 0))), (tp, .inl (G.2.1, 160, .inl (gPf tB 40))), (wo, .inl (G.2.1, 96, .inl (gPf tW 96))), (h0, .inr (6, [.int 0, .ref kd, .ref mo, .ref st, .int 0, .ref ro, .ref tp, .int 40, .ref cd, .ref sr, .int 0, .int 0, .int 0, .ref ir, .ref ih, .ref ss, .ref sq, .ref ce, .ref lw, .int 12, .int 11, .int 45, .int 0, .ref wo, .ref he, .int 0, .int 0, .int 1, .ref sk, .ref na, .ref kp, .int 0, .int 0, .int 0, .int 0, .ref gb, .ref go, .ref fa, .ref ga, .int 0, .int 0, .ref vo]))] H := hP
  have hD : va_D A [(he, .inl (G.2.1, 200, .inl (fun _ => 0))), (cd, .inl (G.2.1, 1200, .inl (upd (fun _ => 0) 0 0))), (tp, .inl (G.2.1, 160, .inl (gPf tB 40))), (wo, .inl (G.2.1, 96, .inl (gPf tW 96))), (h0, .inr (6, [.int 0, .ref kd, .ref mo, .ref st, .int 0, .ref ro, .ref tp, .int 40, .ref cd, .ref sr, .int 0, .int 0, .int 0, .ref ir, .ref ih, .ref ss, .ref sq, .ref ce, .ref lw, .int 12, .int 11, .int 45, .int 0, .ref wo, .ref he, .int 0, .int 0, .int 1, .ref sk, .ref na, .ref kp, .int 0, .int 0, .int 0, .int 0, .ref gb, .ref go, .ref fa, .ref ga, .int 0, .int 0, .ref vo]))] := hD
  refine lv_iload_n hx hb dX6_eRead_18 rfl (lv_at hl 0 rfl) ?_
  refine lv_if_eq (tgt := 150) hx hb dX6_eRead_19 (by decide) (fun c_13 => ?_) (fun c_13 => ?_)
  rotate_left
  · exact absurd (by decide) c_13
  refine lv_aload_n hx hb dX6_eRead_150 rfl (lv_at hl 2 rfl) ?_
  refine va_get (D := G.1) (ci := 6) (v := .int 45) (C := RX6) (T := TX6) (N := 42) hx hb hts hiX6 hown hK hP 4 rfl rfl 21 (by decide) kf117 (fun _ h9 => h9) rfl dX6_eRead_151 ?_
  refine lv_bipush (v := 59) hx hb dX6_eRead_154 (by decide) ?_
  refine lv_icmp_ne (tgt := 177) hx hb dX6_eRead_156 (by decide) (fun c_14 => ?_) (fun c_14 => ?_)
  rotate_left
  · exact absurd c_14 (by decide)
  refine lv_aload_n hx hb dX6_eRead_177 rfl (lv_at hl 2 rfl) ?_
  refine va_get (D := G.1) (ci := 6) (v := .int 45) (C := RX6) (T := TX6) (N := 42) hx hb hts hiX6 hown hK hP 4 rfl rfl 21 (by decide) kf117 (fun _ h9 => h9) rfl dX6_eRead_178 ?_
  refine lv_bipush (v := 41) hx hb dX6_eRead_181 (by decide) ?_
  refine lv_icmp_ne (tgt := 229) hx hb dX6_eRead_183 (by decide) (fun c_15 => ?_) (fun c_15 => ?_)
  rotate_left
  · exact absurd c_15 (by decide)
  refine lv_aload_n hx hb dX6_eRead_229 rfl (lv_at hl 2 rfl) ?_
  have hPc : va_P G.1 vwCl [(h0, .inr (6, [.int 0, .ref kd, .ref mo, .ref st, .int 0, .ref ro, .ref tp, .int 40, .ref cd, .ref sr, .int 0, .int 0, .int 0, .ref ir, .ref ih, .ref ss, .ref sq, .ref ce, .ref lw, .int 12, .int 11, .int 45, .int 0, .ref wo, .ref he, .int 0, .int 0, .int 1, .ref sk, .ref na, .ref kp, .int 0, .int 0, .int 0, .int 0, .ref gb, .ref go, .ref fa, .ref ga, .int 0, .int 0, .ref vo]))] H := hP.sub [4] rfl
  have hDc : va_D A [(h0, .inr (6, [.int 0, .ref kd, .ref mo, .ref st, .int 0, .ref ro, .ref tp, .int 40, .ref cd, .ref sr, .int 0, .int 0, .int 0, .ref ir, .ref ih, .ref ss, .ref sq, .ref ce, .ref lw, .int 12, .int 11, .int 45, .int 0, .ref wo, .ref he, .int 0, .int 0, .int 1, .ref sk, .ref na, .ref kp, .int 0, .int 0, .int 0, .int 0, .ref gb, .ref go, .ref fa, .ref ga, .int 0, .int 0, .ref vo]))] := hD.sub [4] (by decide) rfl
  have hFc := va_free (wc := [(h0, .inr (6, [.int 0, .ref kd, .ref mo, .ref st, .int 0, .ref ro, .ref tp, .int 40, .ref cd, .ref sr, .int 0, .int 0, .int 0, .ref ir, .ref ih, .ref ss, .ref sq, .ref ce, .ref lw, .int 12, .int 11, .int 45, .int 0, .ref wo, .ref he, .int 0, .int 0, .int 1, .ref sk, .ref na, .ref kp, .int 0, .int 0, .int 0, .int 0, .ref gb, .ref go, .ref fa, .ref ga, .int 0, .int 0, .ref vo]))]) hD hS hA [4] rfl
  refine va_calli (va_runV (As := []) (rest := []) ⟨hx, hb, hml, hown, hts⟩ (c_X6_signOf_z18 l G h0 kd mo st ro tp cd sr ir ih ss sq ce lw wo he sk na kp gb go fa ga vo H.size) (cwV 0 hts gX6_eRead_X6_signOf rfl rfl rfl (by decide +kernel) ⟨Nat.le_of_ble_eq_true rfl, Nat.le_of_ble_eq_true rfl⟩) ⟨gPre_blind, va_recv hK hPc (ci := 6) (q0 := 0) rfl rfl, fun U hU hW => gPre_of hU hW hK hPc hDc⟩ rfl rfl hl.1 rfl (lv_room (Nat.le_of_ble_eq_true rfl)) dX6_eRead_230 ⟨Nat.le_of_ble_eq_true rfl, Nat.le_of_ble_eq_true rfl⟩) hS (fun q _ h => hFc q h) hFc (fun r_16 u t H locs ht hvm w_17 hB hz1 hk1 hS => ?_)
  obtain ⟨hP1, hK1, hD1⟩ := hB
  rw [ht] at hP1
  have hP1 : va_P G.1 vwCl [(h0, .inr (6, [.int 0, .ref kd, .ref mo, .ref st, .int 0, .ref ro, .ref tp, .int 40, .ref cd, .ref sr, .int 0, .int 0, .int 0, .ref ir, .ref ih, .ref ss, .ref sq, .ref ce, .ref lw, .int 12, .int 11, .int 45, .int 0, .ref wo, .ref he, .int 0, .int 0, .int 1, .ref sk, .ref na, .ref kp, .int 0, .int 0, .int 0, .int 0, .ref gb, .ref go, .ref fa, .ref ga, .int 0, .int 0, .ref vo]))] H := hP1
  have hD1 : va_D (va_A [(h0, .inr (6, [.int 0, .ref kd, .ref mo, .ref st, .int 0, .ref ro, .ref tp, .int 40, .ref cd, .ref sr, .int 0, .int 0, .int 0, .ref ir, .ref ih, .ref ss, .ref sq, .ref ce, .ref lw, .int 12, .int 11, .int 45, .int 0, .ref wo, .ref he, .int 0, .int 0, .int 1, .ref sk, .ref na, .ref kp, .int 0, .int 0, .int 0, .int 0, .ref gb, .ref go, .ref fa, .ref ga, .int 0, .int 0, .ref vo]))] _) [(h0, .inr (6, [.int 0, .ref kd, .ref mo, .ref st, .int 0, .ref ro, .ref tp, .int 40, .ref cd, .ref sr, .int 0, .int 0, .int 0, .ref ir, .ref ih, .ref ss, .ref sq, .ref ce, .ref lw, .int 12, .int 11, .int 45, .int 0, .ref wo, .ref he, .int 0, .int 0, .int 1, .ref sk, .ref na, .ref kp, .int 0, .int 0, .int 0, .int 0, .ref gb, .ref go, .ref fa, .ref ga, .int 0, .int 0, .ref vo]))] := hD1
  have w_17 : r_16 = 17 := w_17
  obtain ⟨hP, hD⟩ := va_join (wr := [(he, .inl (G.2.1, 200, .inl (fun _ => 0))), (cd, .inl (G.2.1, 1200, .inl (upd (fun _ => 0) 0 0))), (tp, .inl (G.2.1, 160, .inl (gPf tB 40))), (wo, .inl (G.2.1, 96, .inl (gPf tW 96)))]) (w1 := [(h0, .inr (6, [.int 0, .ref kd, .ref mo, .ref st, .int 0, .ref ro, .ref tp, .int 40, .ref cd, .ref sr, .int 0, .int 0, .int 0, .ref ir, .ref ih, .ref ss, .ref sq, .ref ce, .ref lw, .int 12, .int 11, .int 45, .int 0, .ref wo, .ref he, .int 0, .int 0, .int 1, .ref sk, .ref na, .ref kp, .int 0, .int 0, .int 0, .int 0, .ref gb, .ref go, .ref fa, .ref ga, .int 0, .int 0, .ref vo]))]) hP hD [4] [0, 1, 2, 3] rfl rfl (by decide) (by decide) hk1 hFc hP1 hD1
  have hP : va_P G.1 vwCl [(he, .inl (G.2.1, 200, .inl (fun _ => 0))), (cd, .inl (G.2.1, 1200, .inl (upd (fun _ => 0) 0 0))), (tp, .inl (G.2.1, 160, .inl (gPf tB 40))), (wo, .inl (G.2.1, 96, .inl (gPf tW 96))), (h0, .inr (6, [.int 0, .ref kd, .ref mo, .ref st, .int 0, .ref ro, .ref tp, .int 40, .ref cd, .ref sr, .int 0, .int 0, .int 0, .ref ir, .ref ih, .ref ss, .ref sq, .ref ce, .ref lw, .int 12, .int 11, .int 45, .int 0, .ref wo, .ref he, .int 0, .int 0, .int 1, .ref sk, .ref na, .ref kp, .int 0, .int 0, .int 0, .int 0, .ref gb, .ref go, .ref fa, .ref ga, .int 0, .int 0, .ref vo]))] H := hP
  have hD : va_D A [(he, .inl (G.2.1, 200, .inl (fun _ => 0))), (cd, .inl (G.2.1, 1200, .inl (upd (fun _ => 0) 0 0))), (tp, .inl (G.2.1, 160, .inl (gPf tB 40))), (wo, .inl (G.2.1, 96, .inl (gPf tW 96))), (h0, .inr (6, [.int 0, .ref kd, .ref mo, .ref st, .int 0, .ref ro, .ref tp, .int 40, .ref cd, .ref sr, .int 0, .int 0, .int 0, .ref ir, .ref ih, .ref ss, .ref sq, .ref ce, .ref lw, .int 12, .int 11, .int 45, .int 0, .ref wo, .ref he, .int 0, .int 0, .int 1, .ref sk, .ref na, .ref kp, .int 0, .int 0, .int 0, .int 0, .ref gb, .ref go, .ref fa, .ref ga, .int 0, .int 0, .ref vo]))] := hD
  have w_17 : r_16 = 17 := w_17
  subst w_17
  refine lv_istore_n (lv' := [(3, .int 17), (1, .int 0), (2, .int 1), (0, .ref h0)]) hx hb dX6_eRead_233 rfl hl (by decide) rfl (fun ls hl => ?_)
  refine lv_iload_n hx hb dX6_eRead_234 rfl (lv_at hl 0 rfl) ?_
  refine lv_iconst (v := -1) hx hb dX6_eRead_235 (by decide) ?_
  refine lv_icmp_eq (tgt := 247) hx hb dX6_eRead_236 (by decide) (fun c_18 => ?_) (fun c_18 => ?_)
  · exact absurd c_18 (by decide)
  refine lv_aload_n hx hb dX6_eRead_239 rfl (lv_at hl 3 rfl) ?_
  refine lv_iload_n hx hb dX6_eRead_240 rfl (lv_at hl 0 rfl) ?_
  have hPc : va_P G.1 vwCl [(he, .inl (G.2.1, 200, .inl (fun _ => 0))), (cd, .inl (G.2.1, 1200, .inl (upd (fun _ => 0) 0 0))), (h0, .inr (6, [.int 0, .ref kd, .ref mo, .ref st, .int 0, .ref ro, .ref tp, .int 40, .ref cd, .ref sr, .int 0, .int 0, .int 0, .ref ir, .ref ih, .ref ss, .ref sq, .ref ce, .ref lw, .int 12, .int 11, .int 45, .int 0, .ref wo, .ref he, .int 0, .int 0, .int 1, .ref sk, .ref na, .ref kp, .int 0, .int 0, .int 0, .int 0, .ref gb, .ref go, .ref fa, .ref ga, .int 0, .int 0, .ref vo]))] H := hP.sub [0, 1, 4] rfl
  have hDc : va_D A [(he, .inl (G.2.1, 200, .inl (fun _ => 0))), (cd, .inl (G.2.1, 1200, .inl (upd (fun _ => 0) 0 0))), (h0, .inr (6, [.int 0, .ref kd, .ref mo, .ref st, .int 0, .ref ro, .ref tp, .int 40, .ref cd, .ref sr, .int 0, .int 0, .int 0, .ref ir, .ref ih, .ref ss, .ref sq, .ref ce, .ref lw, .int 12, .int 11, .int 45, .int 0, .ref wo, .ref he, .int 0, .int 0, .int 1, .ref sk, .ref na, .ref kp, .int 0, .int 0, .int 0, .int 0, .ref gb, .ref go, .ref fa, .ref ga, .int 0, .int 0, .ref vo]))] := hD.sub [0, 1, 4] (by decide) rfl
  have hFc := va_free (wc := [(he, .inl (G.2.1, 200, .inl (fun _ => 0))), (cd, .inl (G.2.1, 1200, .inl (upd (fun _ => 0) 0 0))), (h0, .inr (6, [.int 0, .ref kd, .ref mo, .ref st, .int 0, .ref ro, .ref tp, .int 40, .ref cd, .ref sr, .int 0, .int 0, .int 0, .ref ir, .ref ih, .ref ss, .ref sq, .ref ce, .ref lw, .int 12, .int 11, .int 45, .int 0, .ref wo, .ref he, .int 0, .int 0, .int 1, .ref sk, .ref na, .ref kp, .int 0, .int 0, .int 0, .int 0, .ref gb, .ref go, .ref fa, .ref ga, .int 0, .int 0, .ref vo]))]) hD hS hA [0, 1, 4] rfl
  refine va_calli (va_runV (As := [.int 17]) (rest := []) ⟨hx, hb, hml, hown, hts⟩ (c_X6_between_z19 l G h0 he cd kd mo st ro tp sr ir ih ss sq ce lw wo sk na kp gb go fa ga vo H.size) (cwV 1 hts gX6_eRead_X6_between rfl rfl rfl (by decide +kernel) ⟨Nat.le_of_ble_eq_true rfl, Nat.le_of_ble_eq_true rfl⟩) ⟨gPre_blind, va_recv hK hPc (ci := 6) (q0 := 2) rfl rfl, fun U hU hW => gPre_of hU hW hK hPc hDc⟩ rfl rfl hl.1 rfl (lv_room (Nat.le_of_ble_eq_true rfl)) dX6_eRead_241 ⟨Nat.le_of_ble_eq_true rfl, Nat.le_of_ble_eq_true rfl⟩) hS (fun q _ h => hFc q h) hFc (fun r_19 u t H locs ht hvm w_20 hB hz1 hk1 hS => ?_)
  obtain ⟨hP1, hK1, hD1⟩ := hB
  rw [ht] at hP1
  have hP1 : va_P G.1 vwCl [(he, .inl (G.2.1, 200, .inl (upd (fun _ => 0) 0 17))), (cd, .inl (G.2.1, 1200, .inl (upd (fun _ => 0) 0 0))), (h0, .inr (6, [.int 0, .ref kd, .ref mo, .ref st, .int 0, .ref ro, .ref tp, .int 40, .ref cd, .ref sr, .int 0, .int 0, .int 0, .ref ir, .ref ih, .ref ss, .ref sq, .ref ce, .ref lw, .int 12, .int 11, .int 45, .int 0, .ref wo, .ref he, .int 1, .int 0, .int 1, .ref sk, .ref na, .ref kp, .int 0, .int 0, .int 0, .int 0, .ref gb, .ref go, .ref fa, .ref ga, .int 0, .int 0, .ref vo]))] H := hP1
  have hD1 : va_D (va_A [(he, .inl (G.2.1, 200, .inl (fun _ => 0))), (cd, .inl (G.2.1, 1200, .inl (upd (fun _ => 0) 0 0))), (h0, .inr (6, [.int 0, .ref kd, .ref mo, .ref st, .int 0, .ref ro, .ref tp, .int 40, .ref cd, .ref sr, .int 0, .int 0, .int 0, .ref ir, .ref ih, .ref ss, .ref sq, .ref ce, .ref lw, .int 12, .int 11, .int 45, .int 0, .ref wo, .ref he, .int 0, .int 0, .int 1, .ref sk, .ref na, .ref kp, .int 0, .int 0, .int 0, .int 0, .ref gb, .ref go, .ref fa, .ref ga, .int 0, .int 0, .ref vo]))] _) [(he, .inl (G.2.1, 200, .inl (upd (fun _ => 0) 0 17))), (cd, .inl (G.2.1, 1200, .inl (upd (fun _ => 0) 0 0))), (h0, .inr (6, [.int 0, .ref kd, .ref mo, .ref st, .int 0, .ref ro, .ref tp, .int 40, .ref cd, .ref sr, .int 0, .int 0, .int 0, .ref ir, .ref ih, .ref ss, .ref sq, .ref ce, .ref lw, .int 12, .int 11, .int 45, .int 0, .ref wo, .ref he, .int 1, .int 0, .int 1, .ref sk, .ref na, .ref kp, .int 0, .int 0, .int 0, .int 0, .ref gb, .ref go, .ref fa, .ref ga, .int 0, .int 0, .ref vo]))] := hD1
  have w_20 : r_19 = 1 := w_20
  obtain ⟨hP, hD⟩ := va_join (wr := [(tp, .inl (G.2.1, 160, .inl (gPf tB 40))), (wo, .inl (G.2.1, 96, .inl (gPf tW 96)))]) (w1 := [(he, .inl (G.2.1, 200, .inl (upd (fun _ => 0) 0 17))), (cd, .inl (G.2.1, 1200, .inl (upd (fun _ => 0) 0 0))), (h0, .inr (6, [.int 0, .ref kd, .ref mo, .ref st, .int 0, .ref ro, .ref tp, .int 40, .ref cd, .ref sr, .int 0, .int 0, .int 0, .ref ir, .ref ih, .ref ss, .ref sq, .ref ce, .ref lw, .int 12, .int 11, .int 45, .int 0, .ref wo, .ref he, .int 1, .int 0, .int 1, .ref sk, .ref na, .ref kp, .int 0, .int 0, .int 0, .int 0, .ref gb, .ref go, .ref fa, .ref ga, .int 0, .int 0, .ref vo]))]) hP hD [0, 1, 4] [2, 3] rfl rfl (by decide) (by decide) hk1 hFc hP1 hD1
  have hP : va_P G.1 vwCl [(tp, .inl (G.2.1, 160, .inl (gPf tB 40))), (wo, .inl (G.2.1, 96, .inl (gPf tW 96))), (he, .inl (G.2.1, 200, .inl (upd (fun _ => 0) 0 17))), (cd, .inl (G.2.1, 1200, .inl (upd (fun _ => 0) 0 0))), (h0, .inr (6, [.int 0, .ref kd, .ref mo, .ref st, .int 0, .ref ro, .ref tp, .int 40, .ref cd, .ref sr, .int 0, .int 0, .int 0, .ref ir, .ref ih, .ref ss, .ref sq, .ref ce, .ref lw, .int 12, .int 11, .int 45, .int 0, .ref wo, .ref he, .int 1, .int 0, .int 1, .ref sk, .ref na, .ref kp, .int 0, .int 0, .int 0, .int 0, .ref gb, .ref go, .ref fa, .ref ga, .int 0, .int 0, .ref vo]))] H := hP
  have hD : va_D A [(tp, .inl (G.2.1, 160, .inl (gPf tB 40))), (wo, .inl (G.2.1, 96, .inl (gPf tW 96))), (he, .inl (G.2.1, 200, .inl (upd (fun _ => 0) 0 17))), (cd, .inl (G.2.1, 1200, .inl (upd (fun _ => 0) 0 0))), (h0, .inr (6, [.int 0, .ref kd, .ref mo, .ref st, .int 0, .ref ro, .ref tp, .int 40, .ref cd, .ref sr, .int 0, .int 0, .int 0, .ref ir, .ref ih, .ref ss, .ref sq, .ref ce, .ref lw, .int 12, .int 11, .int 45, .int 0, .ref wo, .ref he, .int 1, .int 0, .int 1, .ref sk, .ref na, .ref kp, .int 0, .int 0, .int 0, .int 0, .ref gb, .ref go, .ref fa, .ref ga, .int 0, .int 0, .ref vo]))] := hD
  have w_20 : r_19 = 1 := w_20
  subst w_20
  refine lv_if_ne (tgt := 249) hx hb dX6_eRead_244 (by decide) (fun c_21 => ?_) (fun c_21 => ?_)
  rotate_left
  · exact absurd c_21 (by decide)
  refine lv_iconst (v := 1) hx hb dX6_eRead_249 (by decide) ?_
  refine lv_istore_n (lv' := [(1, .int 1), (3, .int 17), (2, .int 1), (0, .ref h0)]) hx hb dX6_eRead_250 rfl hl (by decide) rfl (fun ls hl => ?_)
  refine lv_iload_n hx hb dX6_eRead_251 rfl (lv_at hl 1 rfl) ?_
  refine lv_bipush (v := 12) hx hb dX6_eRead_252 (by decide) ?_
  refine lv_icmp_gt (tgt := 261) hx hb dX6_eRead_254 (by decide) (fun c_22 => ?_) (fun c_22 => ?_)
  rotate_left
  · exact absurd (by decide) c_22
  refine lv_iconst (v := 0) hx hb dX6_eRead_261 (by decide) ?_
  refine lv_istore_n (lv' := [(2, .int 0), (1, .int 1), (3, .int 17), (0, .ref h0)]) hx hb dX6_eRead_262 rfl hl (by decide) rfl (fun ls hl => ?_)
  refine lv_goto (tgt := 14) hx hb dX6_eRead_263 (by decide) ?_
  refine lv_aload_n hx hb dX6_eRead_14 rfl (lv_at hl 3 rfl) ?_
  have hPc : va_P G.1 vwCl [(tp, .inl (G.2.1, 160, .inl (gPf tB 40))), (wo, .inl (G.2.1, 96, .inl (gPf tW 96))), (h0, .inr (6, [.int 0, .ref kd, .ref mo, .ref st, .int 0, .ref ro, .ref tp, .int 40, .ref cd, .ref sr, .int 0, .int 0, .int 0, .ref ir, .ref ih, .ref ss, .ref sq, .ref ce, .ref lw, .int 12, .int 11, .int 45, .int 0, .ref wo, .ref he, .int 1, .int 0, .int 1, .ref sk, .ref na, .ref kp, .int 0, .int 0, .int 0, .int 0, .ref gb, .ref go, .ref fa, .ref ga, .int 0, .int 0, .ref vo]))] H := hP.sub [0, 1, 4] rfl
  have hDc : va_D A [(tp, .inl (G.2.1, 160, .inl (gPf tB 40))), (wo, .inl (G.2.1, 96, .inl (gPf tW 96))), (h0, .inr (6, [.int 0, .ref kd, .ref mo, .ref st, .int 0, .ref ro, .ref tp, .int 40, .ref cd, .ref sr, .int 0, .int 0, .int 0, .ref ir, .ref ih, .ref ss, .ref sq, .ref ce, .ref lw, .int 12, .int 11, .int 45, .int 0, .ref wo, .ref he, .int 1, .int 0, .int 1, .ref sk, .ref na, .ref kp, .int 0, .int 0, .int 0, .int 0, .ref gb, .ref go, .ref fa, .ref ga, .int 0, .int 0, .ref vo]))] := hD.sub [0, 1, 4] (by decide) rfl
  have hFc := va_free (wc := [(tp, .inl (G.2.1, 160, .inl (gPf tB 40))), (wo, .inl (G.2.1, 96, .inl (gPf tW 96))), (h0, .inr (6, [.int 0, .ref kd, .ref mo, .ref st, .int 0, .ref ro, .ref tp, .int 40, .ref cd, .ref sr, .int 0, .int 0, .int 0, .ref ir, .ref ih, .ref ss, .ref sq, .ref ce, .ref lw, .int 12, .int 11, .int 45, .int 0, .ref wo, .ref he, .int 1, .int 0, .int 1, .ref sk, .ref na, .ref kp, .int 0, .int 0, .int 0, .int 0, .ref gb, .ref go, .ref fa, .ref ga, .int 0, .int 0, .ref vo]))]) hD hS hA [0, 1, 4] rfl
  refine va_callv (va_runV (As := []) (rest := []) ⟨hx, hb, hml, hown, hts⟩ (c_X6_next_z23 l G h0 tp wo kd mo st ro cd sr ir ih ss sq ce lw he sk na kp gb go fa ga vo H.size) (cwV 0 hts gX6_eRead_X6_next rfl rfl rfl (by decide +kernel) ⟨Nat.le_of_ble_eq_true rfl, Nat.le_of_ble_eq_true rfl⟩) ⟨gPre_blind, va_recv hK hPc (ci := 6) (q0 := 2) rfl rfl, fun U hU hW => gPre_of hU hW hK hPc hDc⟩ rfl rfl hl.1 rfl (lv_room (Nat.le_of_ble_eq_true rfl)) dX6_eRead_15 ⟨Nat.le_of_ble_eq_true rfl, Nat.le_of_ble_eq_true rfl⟩) hS (fun q _ h => hFc q h) hFc (fun u t H locs ht hvm w_24 hB hz1 hk1 hS => ?_)
  obtain ⟨hP1, hK1, hD1⟩ := hB
  rw [ht] at hP1
  have hP1 : va_P G.1 vwCl [(tp, .inl (G.2.1, 160, .inl (gPf tB 40))), (wo, .inl (G.2.1, 96, .inl (gPf tW 96))), (h0, .inr (6, [.int 0, .ref kd, .ref mo, .ref st, .int 0, .ref ro, .ref tp, .int 40, .ref cd, .ref sr, .int 0, .int 0, .int 0, .ref ir, .ref ih, .ref ss, .ref sq, .ref ce, .ref lw, .int 18, .int 13, .int 2, .int 1, .ref wo, .ref he, .int 1, .int 0, .int 1, .ref sk, .ref na, .ref kp, .int 0, .int 0, .int 0, .int 0, .ref gb, .ref go, .ref fa, .ref ga, .int 0, .int 0, .ref vo]))] H := hP1
  have hD1 : va_D (va_A [(tp, .inl (G.2.1, 160, .inl (gPf tB 40))), (wo, .inl (G.2.1, 96, .inl (gPf tW 96))), (h0, .inr (6, [.int 0, .ref kd, .ref mo, .ref st, .int 0, .ref ro, .ref tp, .int 40, .ref cd, .ref sr, .int 0, .int 0, .int 0, .ref ir, .ref ih, .ref ss, .ref sq, .ref ce, .ref lw, .int 12, .int 11, .int 45, .int 0, .ref wo, .ref he, .int 1, .int 0, .int 1, .ref sk, .ref na, .ref kp, .int 0, .int 0, .int 0, .int 0, .ref gb, .ref go, .ref fa, .ref ga, .int 0, .int 0, .ref vo]))] _) [(tp, .inl (G.2.1, 160, .inl (gPf tB 40))), (wo, .inl (G.2.1, 96, .inl (gPf tW 96))), (h0, .inr (6, [.int 0, .ref kd, .ref mo, .ref st, .int 0, .ref ro, .ref tp, .int 40, .ref cd, .ref sr, .int 0, .int 0, .int 0, .ref ir, .ref ih, .ref ss, .ref sq, .ref ce, .ref lw, .int 18, .int 13, .int 2, .int 1, .ref wo, .ref he, .int 1, .int 0, .int 1, .ref sk, .ref na, .ref kp, .int 0, .int 0, .int 0, .int 0, .ref gb, .ref go, .ref fa, .ref ga, .int 0, .int 0, .ref vo]))] := hD1
  obtain ⟨hP, hD⟩ := va_join (wr := [(he, .inl (G.2.1, 200, .inl (upd (fun _ => 0) 0 17))), (cd, .inl (G.2.1, 1200, .inl (upd (fun _ => 0) 0 0)))]) (w1 := [(tp, .inl (G.2.1, 160, .inl (gPf tB 40))), (wo, .inl (G.2.1, 96, .inl (gPf tW 96))), (h0, .inr (6, [.int 0, .ref kd, .ref mo, .ref st, .int 0, .ref ro, .ref tp, .int 40, .ref cd, .ref sr, .int 0, .int 0, .int 0, .ref ir, .ref ih, .ref ss, .ref sq, .ref ce, .ref lw, .int 18, .int 13, .int 2, .int 1, .ref wo, .ref he, .int 1, .int 0, .int 1, .ref sk, .ref na, .ref kp, .int 0, .int 0, .int 0, .int 0, .ref gb, .ref go, .ref fa, .ref ga, .int 0, .int 0, .ref vo]))]) hP hD [0, 1, 4] [2, 3] rfl rfl (by decide) (by decide) hk1 hFc hP1 hD1
  have hP : va_P G.1 vwCl [(he, .inl (G.2.1, 200, .inl (upd (fun _ => 0) 0 17))), (cd, .inl (G.2.1, 1200, .inl (upd (fun _ => 0) 0 0))), (tp, .inl (G.2.1, 160, .inl (gPf tB 40))), (wo, .inl (G.2.1, 96, .inl (gPf tW 96))), (h0, .inr (6, [.int 0, .ref kd, .ref mo, .ref st, .int 0, .ref ro, .ref tp, .int 40, .ref cd, .ref sr, .int 0, .int 0, .int 0, .ref ir, .ref ih, .ref ss, .ref sq, .ref ce, .ref lw, .int 18, .int 13, .int 2, .int 1, .ref wo, .ref he, .int 1, .int 0, .int 1, .ref sk, .ref na, .ref kp, .int 0, .int 0, .int 0, .int 0, .ref gb, .ref go, .ref fa, .ref ga, .int 0, .int 0, .ref vo]))] H := hP
  have hD : va_D A [(he, .inl (G.2.1, 200, .inl (upd (fun _ => 0) 0 17))), (cd, .inl (G.2.1, 1200, .inl (upd (fun _ => 0) 0 0))), (tp, .inl (G.2.1, 160, .inl (gPf tB 40))), (wo, .inl (G.2.1, 96, .inl (gPf tW 96))), (h0, .inr (6, [.int 0, .ref kd, .ref mo, .ref st, .int 0, .ref ro, .ref tp, .int 40, .ref cd, .ref sr, .int 0, .int 0, .int 0, .ref ir, .ref ih, .ref ss, .ref sq, .ref ce, .ref lw, .int 18, .int 13, .int 2, .int 1, .ref wo, .ref he, .int 1, .int 0, .int 1, .ref sk, .ref na, .ref kp, .int 0, .int 0, .int 0, .int 0, .ref gb, .ref go, .ref fa, .ref ga, .int 0, .int 0, .ref vo]))] := hD
  refine lv_iload_n hx hb dX6_eRead_18 rfl (lv_at hl 1 rfl) ?_
  refine lv_if_eq (tgt := 150) hx hb dX6_eRead_19 (by decide) (fun c_25 => ?_) (fun c_25 => ?_)
  · exact absurd c_25 (by decide)
  refine lv_aload_n hx hb dX6_eRead_22 rfl (lv_at hl 3 rfl) ?_
  refine va_get (D := G.1) (ci := 6) (v := .int 2) (C := RX6) (T := TX6) (N := 42) hx hb hts hiX6 hown hK hP 4 rfl rfl 21 (by decide) kf117 (fun _ h9 => h9) rfl dX6_eRead_23 ?_
  refine lv_iconst (v := 1) hx hb dX6_eRead_26 (by decide) ?_
  refine lv_icmp_eq (tgt := 38) hx hb dX6_eRead_27 (by decide) (fun c_26 => ?_) (fun c_26 => ?_)
  · exact absurd c_26 (by decide)
  refine lv_aload_n hx hb dX6_eRead_30 rfl (lv_at hl 3 rfl) ?_
  refine va_get (D := G.1) (ci := 6) (v := .int 2) (C := RX6) (T := TX6) (N := 42) hx hb hts hiX6 hown hK hP 4 rfl rfl 21 (by decide) kf117 (fun _ h9 => h9) rfl dX6_eRead_31 ?_
  refine lv_iconst (v := 2) hx hb dX6_eRead_34 (by decide) ?_
  refine lv_icmp_ne (tgt := 75) hx hb dX6_eRead_35 (by decide) (fun c_27 => ?_) (fun c_27 => ?_)
  · exact absurd (by decide) c_27
  refine lv_aload_n hx hb dX6_eRead_38 rfl (lv_at hl 3 rfl) ?_
  refine lv_aload_n hx hb dX6_eRead_39 rfl (lv_at hl 3 rfl) ?_
  refine va_get (D := G.1) (ci := 6) (v := .int 2) (C := RX6) (T := TX6) (N := 42) hx hb hts hiX6 hown hK hP 4 rfl rfl 21 (by decide) kf117 (fun _ h9 => h9) rfl dX6_eRead_40 ?_
  refine lv_iconst (v := 1) hx hb dX6_eRead_43 (by decide) ?_
  refine lv_icmp_ne (tgt := 57) hx hb dX6_eRead_44 (by decide) (fun c_28 => ?_) (fun c_28 => ?_)
  rotate_left
  · exact absurd c_28 (by decide)
  refine lv_aload_n hx hb dX6_eRead_57 rfl (lv_at hl 3 rfl) ?_
  refine va_get (D := G.1) (ci := 6) (v := .int 1) (C := RX6) (T := TX6) (N := 42) hx hb hts hiX6 hown hK hP 4 rfl rfl 22 (by decide) kf120 (fun _ h9 => h9) rfl dX6_eRead_58 ?_
  have hPc : va_P G.1 vwCl [(cd, .inl (G.2.1, 1200, .inl (upd (fun _ => 0) 0 0))), (h0, .inr (6, [.int 0, .ref kd, .ref mo, .ref st, .int 0, .ref ro, .ref tp, .int 40, .ref cd, .ref sr, .int 0, .int 0, .int 0, .ref ir, .ref ih, .ref ss, .ref sq, .ref ce, .ref lw, .int 18, .int 13, .int 2, .int 1, .ref wo, .ref he, .int 1, .int 0, .int 1, .ref sk, .ref na, .ref kp, .int 0, .int 0, .int 0, .int 0, .ref gb, .ref go, .ref fa, .ref ga, .int 0, .int 0, .ref vo]))] H := hP.sub [1, 4] rfl
  have hDc : va_D A [(cd, .inl (G.2.1, 1200, .inl (upd (fun _ => 0) 0 0))), (h0, .inr (6, [.int 0, .ref kd, .ref mo, .ref st, .int 0, .ref ro, .ref tp, .int 40, .ref cd, .ref sr, .int 0, .int 0, .int 0, .ref ir, .ref ih, .ref ss, .ref sq, .ref ce, .ref lw, .int 18, .int 13, .int 2, .int 1, .ref wo, .ref he, .int 1, .int 0, .int 1, .ref sk, .ref na, .ref kp, .int 0, .int 0, .int 0, .int 0, .ref gb, .ref go, .ref fa, .ref ga, .int 0, .int 0, .ref vo]))] := hD.sub [1, 4] (by decide) rfl
  have hFc := va_free (wc := [(cd, .inl (G.2.1, 1200, .inl (upd (fun _ => 0) 0 0))), (h0, .inr (6, [.int 0, .ref kd, .ref mo, .ref st, .int 0, .ref ro, .ref tp, .int 40, .ref cd, .ref sr, .int 0, .int 0, .int 0, .ref ir, .ref ih, .ref ss, .ref sq, .ref ce, .ref lw, .int 18, .int 13, .int 2, .int 1, .ref wo, .ref he, .int 1, .int 0, .int 1, .ref sk, .ref na, .ref kp, .int 0, .int 0, .int 0, .int 0, .ref gb, .ref go, .ref fa, .ref ga, .int 0, .int 0, .ref vo]))]) hD hS hA [1, 4] rfl
  refine va_callv (va_runV (As := [.int 1]) (rest := []) ⟨hx, hb, hml, hown, hts⟩ (c_X6_puts_z30 l G h0 cd kd mo st ro tp sr ir ih ss sq ce lw wo he sk na kp gb go fa ga vo H.size) (cwV 1 hts gX6_eRead_X6_puts rfl rfl rfl (by decide +kernel) ⟨Nat.le_of_ble_eq_true rfl, Nat.le_of_ble_eq_true rfl⟩) ⟨gPre_blind, va_recv hK hPc (ci := 6) (q0 := 1) rfl rfl, fun U hU hW => gPre_of hU hW hK hPc hDc⟩ rfl rfl hl.1 rfl (lv_room (Nat.le_of_ble_eq_true rfl)) dX6_eRead_61 ⟨Nat.le_of_ble_eq_true rfl, Nat.le_of_ble_eq_true rfl⟩) hS (fun q _ h => hFc q h) hFc (fun u t H locs ht hvm w_30 hB hz1 hk1 hS => ?_)
  obtain ⟨hP1, hK1, hD1⟩ := hB
  rw [ht] at hP1
  have hP1 : va_P G.1 vwCl [(cd, .inl (G.2.1, 1200, .inl (upd (upd (fun _ => 0) 0 0) 1 1))), (h0, .inr (6, [.int 0, .ref kd, .ref mo, .ref st, .int 0, .ref ro, .ref tp, .int 40, .ref cd, .ref sr, .int 0, .int 0, .int 0, .ref ir, .ref ih, .ref ss, .ref sq, .ref ce, .ref lw, .int 18, .int 13, .int 2, .int 1, .ref wo, .ref he, .int 1, .int 0, .int 2, .ref sk, .ref na, .ref kp, .int 0, .int 0, .int 0, .int 0, .ref gb, .ref go, .ref fa, .ref ga, .int 0, .int 0, .ref vo]))] H := hP1
  have hD1 : va_D (va_A [(cd, .inl (G.2.1, 1200, .inl (upd (fun _ => 0) 0 0))), (h0, .inr (6, [.int 0, .ref kd, .ref mo, .ref st, .int 0, .ref ro, .ref tp, .int 40, .ref cd, .ref sr, .int 0, .int 0, .int 0, .ref ir, .ref ih, .ref ss, .ref sq, .ref ce, .ref lw, .int 18, .int 13, .int 2, .int 1, .ref wo, .ref he, .int 1, .int 0, .int 1, .ref sk, .ref na, .ref kp, .int 0, .int 0, .int 0, .int 0, .ref gb, .ref go, .ref fa, .ref ga, .int 0, .int 0, .ref vo]))] _) [(cd, .inl (G.2.1, 1200, .inl (upd (upd (fun _ => 0) 0 0) 1 1))), (h0, .inr (6, [.int 0, .ref kd, .ref mo, .ref st, .int 0, .ref ro, .ref tp, .int 40, .ref cd, .ref sr, .int 0, .int 0, .int 0, .ref ir, .ref ih, .ref ss, .ref sq, .ref ce, .ref lw, .int 18, .int 13, .int 2, .int 1, .ref wo, .ref he, .int 1, .int 0, .int 2, .ref sk, .ref na, .ref kp, .int 0, .int 0, .int 0, .int 0, .ref gb, .ref go, .ref fa, .ref ga, .int 0, .int 0, .ref vo]))] := hD1
  obtain ⟨hP, hD⟩ := va_join (wr := [(he, .inl (G.2.1, 200, .inl (upd (fun _ => 0) 0 17))), (tp, .inl (G.2.1, 160, .inl (gPf tB 40))), (wo, .inl (G.2.1, 96, .inl (gPf tW 96)))]) (w1 := [(cd, .inl (G.2.1, 1200, .inl (upd (upd (fun _ => 0) 0 0) 1 1))), (h0, .inr (6, [.int 0, .ref kd, .ref mo, .ref st, .int 0, .ref ro, .ref tp, .int 40, .ref cd, .ref sr, .int 0, .int 0, .int 0, .ref ir, .ref ih, .ref ss, .ref sq, .ref ce, .ref lw, .int 18, .int 13, .int 2, .int 1, .ref wo, .ref he, .int 1, .int 0, .int 2, .ref sk, .ref na, .ref kp, .int 0, .int 0, .int 0, .int 0, .ref gb, .ref go, .ref fa, .ref ga, .int 0, .int 0, .ref vo]))]) hP hD [1, 4] [0, 2, 3] rfl rfl (by decide) (by decide) hk1 hFc hP1 hD1
  have hP : va_P G.1 vwCl [(he, .inl (G.2.1, 200, .inl (upd (fun _ => 0) 0 17))), (tp, .inl (G.2.1, 160, .inl (gPf tB 40))), (wo, .inl (G.2.1, 96, .inl (gPf tW 96))), (cd, .inl (G.2.1, 1200, .inl (upd (upd (fun _ => 0) 0 0) 1 1))), (h0, .inr (6, [.int 0, .ref kd, .ref mo, .ref st, .int 0, .ref ro, .ref tp, .int 40, .ref cd, .ref sr, .int 0, .int 0, .int 0, .ref ir, .ref ih, .ref ss, .ref sq, .ref ce, .ref lw, .int 18, .int 13, .int 2, .int 1, .ref wo, .ref he, .int 1, .int 0, .int 2, .ref sk, .ref na, .ref kp, .int 0, .int 0, .int 0, .int 0, .ref gb, .ref go, .ref fa, .ref ga, .int 0, .int 0, .ref vo]))] H := hP
  have hD : va_D A [(he, .inl (G.2.1, 200, .inl (upd (fun _ => 0) 0 17))), (tp, .inl (G.2.1, 160, .inl (gPf tB 40))), (wo, .inl (G.2.1, 96, .inl (gPf tW 96))), (cd, .inl (G.2.1, 1200, .inl (upd (upd (fun _ => 0) 0 0) 1 1))), (h0, .inr (6, [.int 0, .ref kd, .ref mo, .ref st, .int 0, .ref ro, .ref tp, .int 40, .ref cd, .ref sr, .int 0, .int 0, .int 0, .ref ir, .ref ih, .ref ss, .ref sq, .ref ce, .ref lw, .int 18, .int 13, .int 2, .int 1, .ref wo, .ref he, .int 1, .int 0, .int 2, .ref sk, .ref na, .ref kp, .int 0, .int 0, .int 0, .int 0, .ref gb, .ref go, .ref fa, .ref ga, .int 0, .int 0, .ref vo]))] := hD
  refine lv_aload_n hx hb dX6_eRead_64 rfl (lv_at hl 3 rfl) ?_
  refine lv_bipush (v := 7) hx hb dX6_eRead_65 (by decide) ?_
  have hPc : va_P G.1 vwCl [(he, .inl (G.2.1, 200, .inl (upd (fun _ => 0) 0 17))), (cd, .inl (G.2.1, 1200, .inl (upd (upd (fun _ => 0) 0 0) 1 1))), (h0, .inr (6, [.int 0, .ref kd, .ref mo, .ref st, .int 0, .ref ro, .ref tp, .int 40, .ref cd, .ref sr, .int 0, .int 0, .int 0, .ref ir, .ref ih, .ref ss, .ref sq, .ref ce, .ref lw, .int 18, .int 13, .int 2, .int 1, .ref wo, .ref he, .int 1, .int 0, .int 2, .ref sk, .ref na, .ref kp, .int 0, .int 0, .int 0, .int 0, .ref gb, .ref go, .ref fa, .ref ga, .int 0, .int 0, .ref vo]))] H := hP.sub [0, 3, 4] rfl
  have hDc : va_D A [(he, .inl (G.2.1, 200, .inl (upd (fun _ => 0) 0 17))), (cd, .inl (G.2.1, 1200, .inl (upd (upd (fun _ => 0) 0 0) 1 1))), (h0, .inr (6, [.int 0, .ref kd, .ref mo, .ref st, .int 0, .ref ro, .ref tp, .int 40, .ref cd, .ref sr, .int 0, .int 0, .int 0, .ref ir, .ref ih, .ref ss, .ref sq, .ref ce, .ref lw, .int 18, .int 13, .int 2, .int 1, .ref wo, .ref he, .int 1, .int 0, .int 2, .ref sk, .ref na, .ref kp, .int 0, .int 0, .int 0, .int 0, .ref gb, .ref go, .ref fa, .ref ga, .int 0, .int 0, .ref vo]))] := hD.sub [0, 3, 4] (by decide) rfl
  have hFc := va_free (wc := [(he, .inl (G.2.1, 200, .inl (upd (fun _ => 0) 0 17))), (cd, .inl (G.2.1, 1200, .inl (upd (upd (fun _ => 0) 0 0) 1 1))), (h0, .inr (6, [.int 0, .ref kd, .ref mo, .ref st, .int 0, .ref ro, .ref tp, .int 40, .ref cd, .ref sr, .int 0, .int 0, .int 0, .ref ir, .ref ih, .ref ss, .ref sq, .ref ce, .ref lw, .int 18, .int 13, .int 2, .int 1, .ref wo, .ref he, .int 1, .int 0, .int 2, .ref sk, .ref na, .ref kp, .int 0, .int 0, .int 0, .int 0, .ref gb, .ref go, .ref fa, .ref ga, .int 0, .int 0, .ref vo]))]) hD hS hA [0, 3, 4] rfl
  refine va_callv (va_runV (As := [.int 7]) (rest := []) ⟨hx, hb, hml, hown, hts⟩ (c_X6_unwinds_z31 l G h0 he cd kd mo st ro tp sr ir ih ss sq ce lw wo sk na kp gb go fa ga vo H.size) (cwV 1 hts gX6_eRead_X6_unwinds rfl rfl rfl (by decide +kernel) ⟨Nat.le_of_ble_eq_true rfl, Nat.le_of_ble_eq_true rfl⟩) ⟨gPre_blind, va_recv hK hPc (ci := 6) (q0 := 2) rfl rfl, fun U hU hW => gPre_of hU hW hK hPc hDc⟩ rfl rfl hl.1 rfl (lv_room (Nat.le_of_ble_eq_true rfl)) dX6_eRead_67 ⟨Nat.le_of_ble_eq_true rfl, Nat.le_of_ble_eq_true rfl⟩) hS (fun q _ h => hFc q h) hFc (fun u t H locs ht hvm w_32 hB hz1 hk1 hS => ?_)
  obtain ⟨hP1, hK1, hD1⟩ := hB
  rw [ht] at hP1
  have hP1 : va_P G.1 vwCl [(he, .inl (G.2.1, 200, .inl (upd (fun _ => 0) 0 17))), (cd, .inl (G.2.1, 1200, .inl (upd (upd (fun _ => 0) 0 0) 1 1))), (h0, .inr (6, [.int 0, .ref kd, .ref mo, .ref st, .int 0, .ref ro, .ref tp, .int 40, .ref cd, .ref sr, .int 0, .int 0, .int 0, .ref ir, .ref ih, .ref ss, .ref sq, .ref ce, .ref lw, .int 18, .int 13, .int 2, .int 1, .ref wo, .ref he, .int 1, .int 0, .int 2, .ref sk, .ref na, .ref kp, .int 0, .int 0, .int 0, .int 0, .ref gb, .ref go, .ref fa, .ref ga, .int 0, .int 0, .ref vo]))] H := hP1
  have hD1 : va_D (va_A [(he, .inl (G.2.1, 200, .inl (upd (fun _ => 0) 0 17))), (cd, .inl (G.2.1, 1200, .inl (upd (upd (fun _ => 0) 0 0) 1 1))), (h0, .inr (6, [.int 0, .ref kd, .ref mo, .ref st, .int 0, .ref ro, .ref tp, .int 40, .ref cd, .ref sr, .int 0, .int 0, .int 0, .ref ir, .ref ih, .ref ss, .ref sq, .ref ce, .ref lw, .int 18, .int 13, .int 2, .int 1, .ref wo, .ref he, .int 1, .int 0, .int 2, .ref sk, .ref na, .ref kp, .int 0, .int 0, .int 0, .int 0, .ref gb, .ref go, .ref fa, .ref ga, .int 0, .int 0, .ref vo]))] _) [(he, .inl (G.2.1, 200, .inl (upd (fun _ => 0) 0 17))), (cd, .inl (G.2.1, 1200, .inl (upd (upd (fun _ => 0) 0 0) 1 1))), (h0, .inr (6, [.int 0, .ref kd, .ref mo, .ref st, .int 0, .ref ro, .ref tp, .int 40, .ref cd, .ref sr, .int 0, .int 0, .int 0, .ref ir, .ref ih, .ref ss, .ref sq, .ref ce, .ref lw, .int 18, .int 13, .int 2, .int 1, .ref wo, .ref he, .int 1, .int 0, .int 2, .ref sk, .ref na, .ref kp, .int 0, .int 0, .int 0, .int 0, .ref gb, .ref go, .ref fa, .ref ga, .int 0, .int 0, .ref vo]))] := hD1
  obtain ⟨hP, hD⟩ := va_join (wr := [(tp, .inl (G.2.1, 160, .inl (gPf tB 40))), (wo, .inl (G.2.1, 96, .inl (gPf tW 96)))]) (w1 := [(he, .inl (G.2.1, 200, .inl (upd (fun _ => 0) 0 17))), (cd, .inl (G.2.1, 1200, .inl (upd (upd (fun _ => 0) 0 0) 1 1))), (h0, .inr (6, [.int 0, .ref kd, .ref mo, .ref st, .int 0, .ref ro, .ref tp, .int 40, .ref cd, .ref sr, .int 0, .int 0, .int 0, .ref ir, .ref ih, .ref ss, .ref sq, .ref ce, .ref lw, .int 18, .int 13, .int 2, .int 1, .ref wo, .ref he, .int 1, .int 0, .int 2, .ref sk, .ref na, .ref kp, .int 0, .int 0, .int 0, .int 0, .ref gb, .ref go, .ref fa, .ref ga, .int 0, .int 0, .ref vo]))]) hP hD [0, 3, 4] [1, 2] rfl rfl (by decide) (by decide) hk1 hFc hP1 hD1
  have hP : va_P G.1 vwCl [(tp, .inl (G.2.1, 160, .inl (gPf tB 40))), (wo, .inl (G.2.1, 96, .inl (gPf tW 96))), (he, .inl (G.2.1, 200, .inl (upd (fun _ => 0) 0 17))), (cd, .inl (G.2.1, 1200, .inl (upd (upd (fun _ => 0) 0 0) 1 1))), (h0, .inr (6, [.int 0, .ref kd, .ref mo, .ref st, .int 0, .ref ro, .ref tp, .int 40, .ref cd, .ref sr, .int 0, .int 0, .int 0, .ref ir, .ref ih, .ref ss, .ref sq, .ref ce, .ref lw, .int 18, .int 13, .int 2, .int 1, .ref wo, .ref he, .int 1, .int 0, .int 2, .ref sk, .ref na, .ref kp, .int 0, .int 0, .int 0, .int 0, .ref gb, .ref go, .ref fa, .ref ga, .int 0, .int 0, .ref vo]))] H := hP
  have hD : va_D A [(tp, .inl (G.2.1, 160, .inl (gPf tB 40))), (wo, .inl (G.2.1, 96, .inl (gPf tW 96))), (he, .inl (G.2.1, 200, .inl (upd (fun _ => 0) 0 17))), (cd, .inl (G.2.1, 1200, .inl (upd (upd (fun _ => 0) 0 0) 1 1))), (h0, .inr (6, [.int 0, .ref kd, .ref mo, .ref st, .int 0, .ref ro, .ref tp, .int 40, .ref cd, .ref sr, .int 0, .int 0, .int 0, .ref ir, .ref ih, .ref ss, .ref sq, .ref ce, .ref lw, .int 18, .int 13, .int 2, .int 1, .ref wo, .ref he, .int 1, .int 0, .int 2, .ref sk, .ref na, .ref kp, .int 0, .int 0, .int 0, .int 0, .ref gb, .ref go, .ref fa, .ref ga, .int 0, .int 0, .ref vo]))] := hD
  refine lv_iconst (v := 0) hx hb dX6_eRead_70 (by decide) ?_
  refine lv_istore_n (lv' := [(1, .int 0), (2, .int 0), (3, .int 17), (0, .ref h0)]) hx hb dX6_eRead_71 rfl hl (by decide) rfl (fun ls hl => ?_)
  refine lv_goto (tgt := 14) hx hb dX6_eRead_72 (by decide) ?_
  refine lv_aload_n hx hb dX6_eRead_14 rfl (lv_at hl 3 rfl) ?_
  have hPc : va_P G.1 vwCl [(tp, .inl (G.2.1, 160, .inl (gPf tB 40))), (wo, .inl (G.2.1, 96, .inl (gPf tW 96))), (h0, .inr (6, [.int 0, .ref kd, .ref mo, .ref st, .int 0, .ref ro, .ref tp, .int 40, .ref cd, .ref sr, .int 0, .int 0, .int 0, .ref ir, .ref ih, .ref ss, .ref sq, .ref ce, .ref lw, .int 18, .int 13, .int 2, .int 1, .ref wo, .ref he, .int 1, .int 0, .int 2, .ref sk, .ref na, .ref kp, .int 0, .int 0, .int 0, .int 0, .ref gb, .ref go, .ref fa, .ref ga, .int 0, .int 0, .ref vo]))] H := hP.sub [0, 1, 4] rfl
  have hDc : va_D A [(tp, .inl (G.2.1, 160, .inl (gPf tB 40))), (wo, .inl (G.2.1, 96, .inl (gPf tW 96))), (h0, .inr (6, [.int 0, .ref kd, .ref mo, .ref st, .int 0, .ref ro, .ref tp, .int 40, .ref cd, .ref sr, .int 0, .int 0, .int 0, .ref ir, .ref ih, .ref ss, .ref sq, .ref ce, .ref lw, .int 18, .int 13, .int 2, .int 1, .ref wo, .ref he, .int 1, .int 0, .int 2, .ref sk, .ref na, .ref kp, .int 0, .int 0, .int 0, .int 0, .ref gb, .ref go, .ref fa, .ref ga, .int 0, .int 0, .ref vo]))] := hD.sub [0, 1, 4] (by decide) rfl
  have hFc := va_free (wc := [(tp, .inl (G.2.1, 160, .inl (gPf tB 40))), (wo, .inl (G.2.1, 96, .inl (gPf tW 96))), (h0, .inr (6, [.int 0, .ref kd, .ref mo, .ref st, .int 0, .ref ro, .ref tp, .int 40, .ref cd, .ref sr, .int 0, .int 0, .int 0, .ref ir, .ref ih, .ref ss, .ref sq, .ref ce, .ref lw, .int 18, .int 13, .int 2, .int 1, .ref wo, .ref he, .int 1, .int 0, .int 2, .ref sk, .ref na, .ref kp, .int 0, .int 0, .int 0, .int 0, .ref gb, .ref go, .ref fa, .ref ga, .int 0, .int 0, .ref vo]))]) hD hS hA [0, 1, 4] rfl
  refine va_callv (va_runV (As := []) (rest := []) ⟨hx, hb, hml, hown, hts⟩ (c_X6_next_z32 l G h0 tp wo kd mo st ro cd sr ir ih ss sq ce lw he sk na kp gb go fa ga vo H.size) (cwV 0 hts gX6_eRead_X6_next rfl rfl rfl (by decide +kernel) ⟨Nat.le_of_ble_eq_true rfl, Nat.le_of_ble_eq_true rfl⟩) ⟨gPre_blind, va_recv hK hPc (ci := 6) (q0 := 2) rfl rfl, fun U hU hW => gPre_of hU hW hK hPc hDc⟩ rfl rfl hl.1 rfl (lv_room (Nat.le_of_ble_eq_true rfl)) dX6_eRead_15 ⟨Nat.le_of_ble_eq_true rfl, Nat.le_of_ble_eq_true rfl⟩) hS (fun q _ h => hFc q h) hFc (fun u t H locs ht hvm w_34 hB hz1 hk1 hS => ?_)
  obtain ⟨hP1, hK1, hD1⟩ := hB
  rw [ht] at hP1
  have hP1 : va_P G.1 vwCl [(tp, .inl (G.2.1, 160, .inl (gPf tB 40))), (wo, .inl (G.2.1, 96, .inl (gPf tW 96))), (h0, .inr (6, [.int 0, .ref kd, .ref mo, .ref st, .int 0, .ref ro, .ref tp, .int 40, .ref cd, .ref sr, .int 0, .int 0, .int 0, .ref ir, .ref ih, .ref ss, .ref sq, .ref ce, .ref lw, .int 20, .int 19, .int 59, .int 0, .ref wo, .ref he, .int 1, .int 0, .int 2, .ref sk, .ref na, .ref kp, .int 0, .int 0, .int 0, .int 0, .ref gb, .ref go, .ref fa, .ref ga, .int 0, .int 0, .ref vo]))] H := hP1
  have hD1 : va_D (va_A [(tp, .inl (G.2.1, 160, .inl (gPf tB 40))), (wo, .inl (G.2.1, 96, .inl (gPf tW 96))), (h0, .inr (6, [.int 0, .ref kd, .ref mo, .ref st, .int 0, .ref ro, .ref tp, .int 40, .ref cd, .ref sr, .int 0, .int 0, .int 0, .ref ir, .ref ih, .ref ss, .ref sq, .ref ce, .ref lw, .int 18, .int 13, .int 2, .int 1, .ref wo, .ref he, .int 1, .int 0, .int 2, .ref sk, .ref na, .ref kp, .int 0, .int 0, .int 0, .int 0, .ref gb, .ref go, .ref fa, .ref ga, .int 0, .int 0, .ref vo]))] _) [(tp, .inl (G.2.1, 160, .inl (gPf tB 40))), (wo, .inl (G.2.1, 96, .inl (gPf tW 96))), (h0, .inr (6, [.int 0, .ref kd, .ref mo, .ref st, .int 0, .ref ro, .ref tp, .int 40, .ref cd, .ref sr, .int 0, .int 0, .int 0, .ref ir, .ref ih, .ref ss, .ref sq, .ref ce, .ref lw, .int 20, .int 19, .int 59, .int 0, .ref wo, .ref he, .int 1, .int 0, .int 2, .ref sk, .ref na, .ref kp, .int 0, .int 0, .int 0, .int 0, .ref gb, .ref go, .ref fa, .ref ga, .int 0, .int 0, .ref vo]))] := hD1
  obtain ⟨hP, hD⟩ := va_join (wr := [(he, .inl (G.2.1, 200, .inl (upd (fun _ => 0) 0 17))), (cd, .inl (G.2.1, 1200, .inl (upd (upd (fun _ => 0) 0 0) 1 1)))]) (w1 := [(tp, .inl (G.2.1, 160, .inl (gPf tB 40))), (wo, .inl (G.2.1, 96, .inl (gPf tW 96))), (h0, .inr (6, [.int 0, .ref kd, .ref mo, .ref st, .int 0, .ref ro, .ref tp, .int 40, .ref cd, .ref sr, .int 0, .int 0, .int 0, .ref ir, .ref ih, .ref ss, .ref sq, .ref ce, .ref lw, .int 20, .int 19, .int 59, .int 0, .ref wo, .ref he, .int 1, .int 0, .int 2, .ref sk, .ref na, .ref kp, .int 0, .int 0, .int 0, .int 0, .ref gb, .ref go, .ref fa, .ref ga, .int 0, .int 0, .ref vo]))]) hP hD [0, 1, 4] [2, 3] rfl rfl (by decide) (by decide) hk1 hFc hP1 hD1
  have hP : va_P G.1 vwCl [(he, .inl (G.2.1, 200, .inl (upd (fun _ => 0) 0 17))), (cd, .inl (G.2.1, 1200, .inl (upd (upd (fun _ => 0) 0 0) 1 1))), (tp, .inl (G.2.1, 160, .inl (gPf tB 40))), (wo, .inl (G.2.1, 96, .inl (gPf tW 96))), (h0, .inr (6, [.int 0, .ref kd, .ref mo, .ref st, .int 0, .ref ro, .ref tp, .int 40, .ref cd, .ref sr, .int 0, .int 0, .int 0, .ref ir, .ref ih, .ref ss, .ref sq, .ref ce, .ref lw, .int 20, .int 19, .int 59, .int 0, .ref wo, .ref he, .int 1, .int 0, .int 2, .ref sk, .ref na, .ref kp, .int 0, .int 0, .int 0, .int 0, .ref gb, .ref go, .ref fa, .ref ga, .int 0, .int 0, .ref vo]))] H := hP
  have hD : va_D A [(he, .inl (G.2.1, 200, .inl (upd (fun _ => 0) 0 17))), (cd, .inl (G.2.1, 1200, .inl (upd (upd (fun _ => 0) 0 0) 1 1))), (tp, .inl (G.2.1, 160, .inl (gPf tB 40))), (wo, .inl (G.2.1, 96, .inl (gPf tW 96))), (h0, .inr (6, [.int 0, .ref kd, .ref mo, .ref st, .int 0, .ref ro, .ref tp, .int 40, .ref cd, .ref sr, .int 0, .int 0, .int 0, .ref ir, .ref ih, .ref ss, .ref sq, .ref ce, .ref lw, .int 20, .int 19, .int 59, .int 0, .ref wo, .ref he, .int 1, .int 0, .int 2, .ref sk, .ref na, .ref kp, .int 0, .int 0, .int 0, .int 0, .ref gb, .ref go, .ref fa, .ref ga, .int 0, .int 0, .ref vo]))] := hD
  refine lv_iload_n hx hb dX6_eRead_18 rfl (lv_at hl 0 rfl) ?_
  refine lv_if_eq (tgt := 150) hx hb dX6_eRead_19 (by decide) (fun c_35 => ?_) (fun c_35 => ?_)
  rotate_left
  · exact absurd (by decide) c_35
  refine lv_aload_n hx hb dX6_eRead_150 rfl (lv_at hl 3 rfl) ?_
  refine va_get (D := G.1) (ci := 6) (v := .int 59) (C := RX6) (T := TX6) (N := 42) hx hb hts hiX6 hown hK hP 4 rfl rfl 21 (by decide) kf117 (fun _ h9 => h9) rfl dX6_eRead_151 ?_
  refine lv_bipush (v := 59) hx hb dX6_eRead_154 (by decide) ?_
  refine lv_icmp_ne (tgt := 177) hx hb dX6_eRead_156 (by decide) (fun c_36 => ?_) (fun c_36 => ?_)
  · exact absurd (by decide) c_36
  refine lv_aload_n hx hb dX6_eRead_159 rfl (lv_at hl 3 rfl) ?_
  refine lv_iconst (v := 1) hx hb dX6_eRead_160 (by decide) ?_
  have hPc : va_P G.1 vwCl [(he, .inl (G.2.1, 200, .inl (upd (fun _ => 0) 0 17))), (cd, .inl (G.2.1, 1200, .inl (upd (upd (fun _ => 0) 0 0) 1 1))), (h0, .inr (6, [.int 0, .ref kd, .ref mo, .ref st, .int 0, .ref ro, .ref tp, .int 40, .ref cd, .ref sr, .int 0, .int 0, .int 0, .ref ir, .ref ih, .ref ss, .ref sq, .ref ce, .ref lw, .int 20, .int 19, .int 59, .int 0, .ref wo, .ref he, .int 1, .int 0, .int 2, .ref sk, .ref na, .ref kp, .int 0, .int 0, .int 0, .int 0, .ref gb, .ref go, .ref fa, .ref ga, .int 0, .int 0, .ref vo]))] H := hP.sub [0, 1, 4] rfl
  have hDc : va_D A [(he, .inl (G.2.1, 200, .inl (upd (fun _ => 0) 0 17))), (cd, .inl (G.2.1, 1200, .inl (upd (upd (fun _ => 0) 0 0) 1 1))), (h0, .inr (6, [.int 0, .ref kd, .ref mo, .ref st, .int 0, .ref ro, .ref tp, .int 40, .ref cd, .ref sr, .int 0, .int 0, .int 0, .ref ir, .ref ih, .ref ss, .ref sq, .ref ce, .ref lw, .int 20, .int 19, .int 59, .int 0, .ref wo, .ref he, .int 1, .int 0, .int 2, .ref sk, .ref na, .ref kp, .int 0, .int 0, .int 0, .int 0, .ref gb, .ref go, .ref fa, .ref ga, .int 0, .int 0, .ref vo]))] := hD.sub [0, 1, 4] (by decide) rfl
  have hFc := va_free (wc := [(he, .inl (G.2.1, 200, .inl (upd (fun _ => 0) 0 17))), (cd, .inl (G.2.1, 1200, .inl (upd (upd (fun _ => 0) 0 0) 1 1))), (h0, .inr (6, [.int 0, .ref kd, .ref mo, .ref st, .int 0, .ref ro, .ref tp, .int 40, .ref cd, .ref sr, .int 0, .int 0, .int 0, .ref ir, .ref ih, .ref ss, .ref sq, .ref ce, .ref lw, .int 20, .int 19, .int 59, .int 0, .ref wo, .ref he, .int 1, .int 0, .int 2, .ref sk, .ref na, .ref kp, .int 0, .int 0, .int 0, .int 0, .ref gb, .ref go, .ref fa, .ref ga, .int 0, .int 0, .ref vo]))]) hD hS hA [0, 1, 4] rfl
  refine va_callv (va_runV (As := [.int 1]) (rest := []) ⟨hx, hb, hml, hown, hts⟩ (c_X6_unwinds_z35 l G h0 he cd kd mo st ro tp sr ir ih ss sq ce lw wo sk na kp gb go fa ga vo H.size) (cwV 1 hts gX6_eRead_X6_unwinds rfl rfl rfl (by decide +kernel) ⟨Nat.le_of_ble_eq_true rfl, Nat.le_of_ble_eq_true rfl⟩) ⟨gPre_blind, va_recv hK hPc (ci := 6) (q0 := 2) rfl rfl, fun U hU hW => gPre_of hU hW hK hPc hDc⟩ rfl rfl hl.1 rfl (lv_room (Nat.le_of_ble_eq_true rfl)) dX6_eRead_161 ⟨Nat.le_of_ble_eq_true rfl, Nat.le_of_ble_eq_true rfl⟩) hS (fun q _ h => hFc q h) hFc (fun u t H locs ht hvm w_38 hB hz1 hk1 hS => ?_)
  obtain ⟨hP1, hK1, hD1⟩ := hB
  rw [ht] at hP1
  have hP1 : va_P G.1 vwCl [(he, .inl (G.2.1, 200, .inl (upd (fun _ => 0) 0 17))), (cd, .inl (G.2.1, 1200, .inl (upd (upd (upd (fun _ => 0) 0 0) 1 1) 2 17))), (h0, .inr (6, [.int 0, .ref kd, .ref mo, .ref st, .int 0, .ref ro, .ref tp, .int 40, .ref cd, .ref sr, .int 0, .int 0, .int 0, .ref ir, .ref ih, .ref ss, .ref sq, .ref ce, .ref lw, .int 20, .int 19, .int 59, .int 0, .ref wo, .ref he, .int 0, .int 0, .int 3, .ref sk, .ref na, .ref kp, .int 0, .int 0, .int 0, .int 0, .ref gb, .ref go, .ref fa, .ref ga, .int 0, .int 0, .ref vo]))] H := hP1
  have hD1 : va_D (va_A [(he, .inl (G.2.1, 200, .inl (upd (fun _ => 0) 0 17))), (cd, .inl (G.2.1, 1200, .inl (upd (upd (fun _ => 0) 0 0) 1 1))), (h0, .inr (6, [.int 0, .ref kd, .ref mo, .ref st, .int 0, .ref ro, .ref tp, .int 40, .ref cd, .ref sr, .int 0, .int 0, .int 0, .ref ir, .ref ih, .ref ss, .ref sq, .ref ce, .ref lw, .int 20, .int 19, .int 59, .int 0, .ref wo, .ref he, .int 1, .int 0, .int 2, .ref sk, .ref na, .ref kp, .int 0, .int 0, .int 0, .int 0, .ref gb, .ref go, .ref fa, .ref ga, .int 0, .int 0, .ref vo]))] _) [(he, .inl (G.2.1, 200, .inl (upd (fun _ => 0) 0 17))), (cd, .inl (G.2.1, 1200, .inl (upd (upd (upd (fun _ => 0) 0 0) 1 1) 2 17))), (h0, .inr (6, [.int 0, .ref kd, .ref mo, .ref st, .int 0, .ref ro, .ref tp, .int 40, .ref cd, .ref sr, .int 0, .int 0, .int 0, .ref ir, .ref ih, .ref ss, .ref sq, .ref ce, .ref lw, .int 20, .int 19, .int 59, .int 0, .ref wo, .ref he, .int 0, .int 0, .int 3, .ref sk, .ref na, .ref kp, .int 0, .int 0, .int 0, .int 0, .ref gb, .ref go, .ref fa, .ref ga, .int 0, .int 0, .ref vo]))] := hD1
  obtain ⟨hP, hD⟩ := va_join (wr := [(tp, .inl (G.2.1, 160, .inl (gPf tB 40))), (wo, .inl (G.2.1, 96, .inl (gPf tW 96)))]) (w1 := [(he, .inl (G.2.1, 200, .inl (upd (fun _ => 0) 0 17))), (cd, .inl (G.2.1, 1200, .inl (upd (upd (upd (fun _ => 0) 0 0) 1 1) 2 17))), (h0, .inr (6, [.int 0, .ref kd, .ref mo, .ref st, .int 0, .ref ro, .ref tp, .int 40, .ref cd, .ref sr, .int 0, .int 0, .int 0, .ref ir, .ref ih, .ref ss, .ref sq, .ref ce, .ref lw, .int 20, .int 19, .int 59, .int 0, .ref wo, .ref he, .int 0, .int 0, .int 3, .ref sk, .ref na, .ref kp, .int 0, .int 0, .int 0, .int 0, .ref gb, .ref go, .ref fa, .ref ga, .int 0, .int 0, .ref vo]))]) hP hD [0, 1, 4] [2, 3] rfl rfl (by decide) (by decide) hk1 hFc hP1 hD1
  have hP : va_P G.1 vwCl [(tp, .inl (G.2.1, 160, .inl (gPf tB 40))), (wo, .inl (G.2.1, 96, .inl (gPf tW 96))), (he, .inl (G.2.1, 200, .inl (upd (fun _ => 0) 0 17))), (cd, .inl (G.2.1, 1200, .inl (upd (upd (upd (fun _ => 0) 0 0) 1 1) 2 17))), (h0, .inr (6, [.int 0, .ref kd, .ref mo, .ref st, .int 0, .ref ro, .ref tp, .int 40, .ref cd, .ref sr, .int 0, .int 0, .int 0, .ref ir, .ref ih, .ref ss, .ref sq, .ref ce, .ref lw, .int 20, .int 19, .int 59, .int 0, .ref wo, .ref he, .int 0, .int 0, .int 3, .ref sk, .ref na, .ref kp, .int 0, .int 0, .int 0, .int 0, .ref gb, .ref go, .ref fa, .ref ga, .int 0, .int 0, .ref vo]))] H := hP
  have hD : va_D A [(tp, .inl (G.2.1, 160, .inl (gPf tB 40))), (wo, .inl (G.2.1, 96, .inl (gPf tW 96))), (he, .inl (G.2.1, 200, .inl (upd (fun _ => 0) 0 17))), (cd, .inl (G.2.1, 1200, .inl (upd (upd (upd (fun _ => 0) 0 0) 1 1) 2 17))), (h0, .inr (6, [.int 0, .ref kd, .ref mo, .ref st, .int 0, .ref ro, .ref tp, .int 40, .ref cd, .ref sr, .int 0, .int 0, .int 0, .ref ir, .ref ih, .ref ss, .ref sq, .ref ce, .ref lw, .int 20, .int 19, .int 59, .int 0, .ref wo, .ref he, .int 0, .int 0, .int 3, .ref sk, .ref na, .ref kp, .int 0, .int 0, .int 0, .int 0, .ref gb, .ref go, .ref fa, .ref ga, .int 0, .int 0, .ref vo]))] := hD
  refine lv_aload_n hx hb dX6_eRead_164 rfl (lv_at hl 3 rfl) ?_
  refine va_get (D := G.1) (ci := 6) (v := .int 0) (C := RX6) (T := TX6) (N := 42) hx hb hts hiX6 hown hK hP 4 rfl rfl 25 (by decide) kf130 (fun _ h9 => h9) rfl dX6_eRead_165 ?_
  refine lv_if_ne (tgt := 175) hx hb dX6_eRead_168 (by decide) (fun c_39 => ?_) (fun c_39 => ?_)
  · exact absurd (by decide) c_39
  refine lv_iconst (v := 1) hx hb dX6_eRead_171 (by decide) ?_
  refine lv_goto (tgt := 176) hx hb dX6_eRead_172 (by decide) ?_
  have hP9 := hP.sub (ws' := [(cd, .inl (G.2.1, 1200, .inl (upd (upd (upd (fun _ => 0) 0 0) 1 1) 2 17))), (he, .inl (G.2.1, 200, .inl (upd (fun _ => 0) 0 17))), (h0, .inr (6, [.int 0, .ref kd, .ref mo, .ref st, .int 0, .ref ro, .ref tp, .int 40, .ref cd, .ref sr, .int 0, .int 0, .int 0, .ref ir, .ref ih, .ref ss, .ref sq, .ref ce, .ref lw, .int 20, .int 19, .int 59, .int 0, .ref wo, .ref he, .int 0, .int 0, .int 3, .ref sk, .ref na, .ref kp, .int 0, .int 0, .int 0, .int 0, .ref gb, .ref go, .ref fa, .ref ga, .int 0, .int 0, .ref vo])), (tp, .inl (G.2.1, 160, .inl (gPf tB 40))), (wo, .inl (G.2.1, 96, .inl (gPf tW 96)))]) [3, 2, 4, 0, 1] rfl
  have hD9 := hD.sub (ws' := [(cd, .inl (G.2.1, 1200, .inl (upd (upd (upd (fun _ => 0) 0 0) 1 1) 2 17))), (he, .inl (G.2.1, 200, .inl (upd (fun _ => 0) 0 17))), (h0, .inr (6, [.int 0, .ref kd, .ref mo, .ref st, .int 0, .ref ro, .ref tp, .int 40, .ref cd, .ref sr, .int 0, .int 0, .int 0, .ref ir, .ref ih, .ref ss, .ref sq, .ref ce, .ref lw, .int 20, .int 19, .int 59, .int 0, .ref wo, .ref he, .int 0, .int 0, .int 3, .ref sk, .ref na, .ref kp, .int 0, .int 0, .int 0, .int 0, .ref gb, .ref go, .ref fa, .ref ga, .int 0, .int 0, .ref vo])), (tp, .inl (G.2.1, 160, .inl (gPf tB 40))), (wo, .inl (G.2.1, 96, .inl (gPf tW 96)))]) [3, 2, 4, 0, 1] (by decide) rfl
  have hpost : (fun (r : Int32) (u : Unit) => match u with | _ => r = 1) 1 () := by first | rfl | trivial
  exact W.zret (v := 1) hx hb hr (rfl) (fun t ht hW => ⟨⟨1, (), rfl, hpost, by rw [ht]; exact hP9, va_K.moved hW.alike hK, hD9⟩, hS.F ht⟩) hS.2.2 dX6_eRead_176
abbrev q_X6_in_z38 (G : gG) (A : Nat → Prop) : Array Value → State → Outcome → State → Prop := va_Qi (fun (r : Int32) (u : Unit) => match u with | _ => r = 1) (fun (u : Unit) t => match u with | _ => va_P G.1 vwCl [] t.heap ∧ gK G t ∧ va_D A []) A
set_option maxHeartbeats 4000000 in
set_option maxRecDepth 100000 in
theorem c_X6_in_z38 (l : Launch) (G : gG) (sz : Nat) : Met l yX6_in wsX6_in ({ frames := 0, cells := 0, slots := 0, locals := 0 }) (gPre G [.int 119, .int 97, .int 122] [] sz) (q_X6_in_z38 G (va_A [] sz)) 0 0 (va_A [] sz) := by
  refine Met.ofW (cc := cX6_in) (maxL := 3) (ret := (some .boolean)) (by decide) rfl ?_
  intro p e s m args below meth c s₁ B hml hv
  obtain ⟨rfl, hsz, hP, hK, hD0⟩ := hv
  have hx := B.exec
  have hb := B.bytes
  have hr := B.returns
  have hts := atoms_spec (ws := wsX6_in) B.pre
  have hown : s.vm.findClass RX6 = some m.cls := findClass_of_methodNamed B.named
  have hlocks := B.notSynchronized
  subst hsz
  have hD := hD0.self (sz := s.heap.size)
  generalize hAe : va_A [] s.heap.size = A at hD ⊢
  have hA : ∀ q : Nat, s.heap.size ≤ q → A q := fun q h => by rw [← hAe]; exact Or.inr h
  have hS : va_S A s.heap s.heap [] := va_S.rf
  have hP : va_P G.1 vwCl [] s.heap := hP
  have hD : va_D A [] := hD
  have hl := lv_entry ([.int 119, .int 97, .int 122]) (n := 3) (Nat.le_of_ble_eq_true rfl)
  rw [lg_entry_eq]
  generalize (lg_sl ([.int 119, .int 97, .int 122]) ++ List.replicate (3 - (lg_sl ([.int 119, .int 97, .int 122])).length) Slot.unset).toArray = ls at hl ⊢
  have hl : lv_has ls 3 [(0, .int 119), (1, .int 97), (2, .int 122)] := hl
  refine lv_iload_n hx hb dX6_in_0 rfl (lv_at hl 0 rfl) ?_
  refine lv_iload_n hx hb dX6_in_1 rfl (lv_at hl 1 rfl) ?_
  refine lv_icmp_lt (tgt := 14) hx hb dX6_in_2 (by decide) (fun c_1 => ?_) (fun c_1 => ?_)
  · exact absurd c_1 (by decide)
  refine lv_iload_n hx hb dX6_in_5 rfl (lv_at hl 0 rfl) ?_
  refine lv_iload_n hx hb dX6_in_6 rfl (lv_at hl 2 rfl) ?_
  refine lv_icmp_gt (tgt := 14) hx hb dX6_in_7 (by decide) (fun c_2 => ?_) (fun c_2 => ?_)
  · exact absurd c_2 (by decide)
  refine lv_iconst (v := 1) hx hb dX6_in_10 (by decide) ?_
  refine lv_goto (tgt := 15) hx hb dX6_in_11 (by decide) ?_
  have hP9 := hP.sub (ws' := []) [] rfl
  have hD9 := hD.sub (ws' := []) [] (by decide) rfl
  have hpost : (fun (r : Int32) (u : Unit) => match u with | _ => r = 1) 1 () := by first | rfl | trivial
  exact W.zret (v := 1) hx hb hr (rfl) (fun t ht hW => ⟨⟨1, (), rfl, hpost, by rw [ht]; exact hP9, va_K.moved hW.alike hK, hD9⟩, hS.F ht⟩) hS.2.2 dX6_in_15
abbrev q_X6_in_z39 (G : gG) (A : Nat → Prop) : Array Value → State → Outcome → State → Prop := va_Qi (fun (r : Int32) (u : Unit) => match u with | _ => r = 1) (fun (u : Unit) t => match u with | _ => va_P G.1 vwCl [] t.heap ∧ gK G t ∧ va_D A []) A
set_option maxHeartbeats 4000000 in
set_option maxRecDepth 100000 in
theorem c_X6_in_z39 (l : Launch) (G : gG) (sz : Nat) : Met l yX6_in wsX6_in ({ frames := 0, cells := 0, slots := 0, locals := 0 }) (gPre G [.int 97, .int 97, .int 122] [] sz) (q_X6_in_z39 G (va_A [] sz)) 0 0 (va_A [] sz) := by
  refine Met.ofW (cc := cX6_in) (maxL := 3) (ret := (some .boolean)) (by decide) rfl ?_
  intro p e s m args below meth c s₁ B hml hv
  obtain ⟨rfl, hsz, hP, hK, hD0⟩ := hv
  have hx := B.exec
  have hb := B.bytes
  have hr := B.returns
  have hts := atoms_spec (ws := wsX6_in) B.pre
  have hown : s.vm.findClass RX6 = some m.cls := findClass_of_methodNamed B.named
  have hlocks := B.notSynchronized
  subst hsz
  have hD := hD0.self (sz := s.heap.size)
  generalize hAe : va_A [] s.heap.size = A at hD ⊢
  have hA : ∀ q : Nat, s.heap.size ≤ q → A q := fun q h => by rw [← hAe]; exact Or.inr h
  have hS : va_S A s.heap s.heap [] := va_S.rf
  have hP : va_P G.1 vwCl [] s.heap := hP
  have hD : va_D A [] := hD
  have hl := lv_entry ([.int 97, .int 97, .int 122]) (n := 3) (Nat.le_of_ble_eq_true rfl)
  rw [lg_entry_eq]
  generalize (lg_sl ([.int 97, .int 97, .int 122]) ++ List.replicate (3 - (lg_sl ([.int 97, .int 97, .int 122])).length) Slot.unset).toArray = ls at hl ⊢
  have hl : lv_has ls 3 [(0, .int 97), (1, .int 97), (2, .int 122)] := hl
  refine lv_iload_n hx hb dX6_in_0 rfl (lv_at hl 0 rfl) ?_
  refine lv_iload_n hx hb dX6_in_1 rfl (lv_at hl 1 rfl) ?_
  refine lv_icmp_lt (tgt := 14) hx hb dX6_in_2 (by decide) (fun c_1 => ?_) (fun c_1 => ?_)
  · exact absurd c_1 (by decide)
  refine lv_iload_n hx hb dX6_in_5 rfl (lv_at hl 0 rfl) ?_
  refine lv_iload_n hx hb dX6_in_6 rfl (lv_at hl 2 rfl) ?_
  refine lv_icmp_gt (tgt := 14) hx hb dX6_in_7 (by decide) (fun c_2 => ?_) (fun c_2 => ?_)
  · exact absurd c_2 (by decide)
  refine lv_iconst (v := 1) hx hb dX6_in_10 (by decide) ?_
  refine lv_goto (tgt := 15) hx hb dX6_in_11 (by decide) ?_
  have hP9 := hP.sub (ws' := []) [] rfl
  have hD9 := hD.sub (ws' := []) [] (by decide) rfl
  have hpost : (fun (r : Int32) (u : Unit) => match u with | _ => r = 1) 1 () := by first | rfl | trivial
  exact W.zret (v := 1) hx hb hr (rfl) (fun t ht hW => ⟨⟨1, (), rfl, hpost, by rw [ht]; exact hP9, va_K.moved hW.alike hK, hD9⟩, hS.F ht⟩) hS.2.2 dX6_in_15
abbrev q_X6_wordFrom_z40 (G : gG) (h0 kd mo st ro tp cd sr ir ih ss sq ce lw wo he sk na kp gb go fa ga vo : Nat) (A : Nat → Prop) : Array Value → State → Outcome → State → Prop := va_Qi (fun (r : Int32) (u : Unit) => match u with | _ => r = 1) (fun (u : Unit) t => match u with | _ => va_P G.1 vwCl [(h0, .inr (6, [.int 0, .ref kd, .ref mo, .ref st, .int 0, .ref ro, .ref tp, .int 40, .ref cd, .ref sr, .int 0, .int 0, .int 0, .ref ir, .ref ih, .ref ss, .ref sq, .ref ce, .ref lw, .int 26, .int 21, .int 0, .int 0, .ref wo, .ref he, .int 0, .int 0, .int 3, .ref sk, .ref na, .ref kp, .int 0, .int 0, .int 0, .int 0, .ref gb, .ref go, .ref fa, .ref ga, .int 0, .int 0, .ref vo])), (tp, .inl (G.2.1, 160, .inl (gPf tB 40))), (wo, .inl (G.2.1, 96, .inl (gPf tW 96)))] t.heap ∧ gK G t ∧ va_D A [(h0, .inr (6, [.int 0, .ref kd, .ref mo, .ref st, .int 0, .ref ro, .ref tp, .int 40, .ref cd, .ref sr, .int 0, .int 0, .int 0, .ref ir, .ref ih, .ref ss, .ref sq, .ref ce, .ref lw, .int 26, .int 21, .int 0, .int 0, .ref wo, .ref he, .int 0, .int 0, .int 3, .ref sk, .ref na, .ref kp, .int 0, .int 0, .int 0, .int 0, .ref gb, .ref go, .ref fa, .ref ga, .int 0, .int 0, .ref vo])), (tp, .inl (G.2.1, 160, .inl (gPf tB 40))), (wo, .inl (G.2.1, 96, .inl (gPf tW 96)))]) A
set_option maxHeartbeats 4000000 in
set_option maxRecDepth 100000 in
theorem c_X6_wordFrom_z40 (l : Launch) (G : gG) (h0 kd mo st ro tp cd sr ir ih ss sq ce lw wo he sk na kp gb go fa ga vo : Nat) (sz : Nat) : Met l yX6_wordFrom wsX6_wordFrom ({ frames := 0, cells := 0, slots := 0, locals := 0 }) (gPre G [.ref h0, .int 21, .int 26] [(h0, .inr (6, [.int 0, .ref kd, .ref mo, .ref st, .int 0, .ref ro, .ref tp, .int 40, .ref cd, .ref sr, .int 0, .int 0, .int 0, .ref ir, .ref ih, .ref ss, .ref sq, .ref ce, .ref lw, .int 26, .int 21, .int 0, .int 0, .ref wo, .ref he, .int 0, .int 0, .int 3, .ref sk, .ref na, .ref kp, .int 0, .int 0, .int 0, .int 0, .ref gb, .ref go, .ref fa, .ref ga, .int 0, .int 0, .ref vo])), (tp, .inl (G.2.1, 160, .inl (gPf tB 40))), (wo, .inl (G.2.1, 96, .inl (gPf tW 96)))] sz) (q_X6_wordFrom_z40 G h0 kd mo st ro tp cd sr ir ih ss sq ce lw wo he sk na kp gb go fa ga vo (va_A [(h0, .inr (6, [.int 0, .ref kd, .ref mo, .ref st, .int 0, .ref ro, .ref tp, .int 40, .ref cd, .ref sr, .int 0, .int 0, .int 0, .ref ir, .ref ih, .ref ss, .ref sq, .ref ce, .ref lw, .int 26, .int 21, .int 0, .int 0, .ref wo, .ref he, .int 0, .int 0, .int 3, .ref sk, .ref na, .ref kp, .int 0, .int 0, .int 0, .int 0, .ref gb, .ref go, .ref fa, .ref ga, .int 0, .int 0, .ref vo])), (tp, .inl (G.2.1, 160, .inl (gPf tB 40))), (wo, .inl (G.2.1, 96, .inl (gPf tW 96)))] sz)) 0 0 (va_A [(h0, .inr (6, [.int 0, .ref kd, .ref mo, .ref st, .int 0, .ref ro, .ref tp, .int 40, .ref cd, .ref sr, .int 0, .int 0, .int 0, .ref ir, .ref ih, .ref ss, .ref sq, .ref ce, .ref lw, .int 26, .int 21, .int 0, .int 0, .ref wo, .ref he, .int 0, .int 0, .int 3, .ref sk, .ref na, .ref kp, .int 0, .int 0, .int 0, .int 0, .ref gb, .ref go, .ref fa, .ref ga, .int 0, .int 0, .ref vo])), (tp, .inl (G.2.1, 160, .inl (gPf tB 40))), (wo, .inl (G.2.1, 96, .inl (gPf tW 96)))] sz) := by
  refine Met.ofW (cc := cX6_wordFrom) (maxL := 6) (ret := (some .int)) (by decide) rfl ?_
  intro p e s m args below meth c s₁ B hml hv
  obtain ⟨rfl, hsz, hP, hK, hD0⟩ := hv
  have hx := B.exec
  have hb := B.bytes
  have hr := B.returns
  have hts := atoms_spec (ws := wsX6_wordFrom) B.pre
  have hown : s.vm.findClass RX6 = some m.cls := findClass_of_methodNamed B.named
  have hlocks := B.notSynchronized
  subst hsz
  have hD := hD0.self (sz := s.heap.size)
  generalize hAe : va_A [(h0, .inr (6, [.int 0, .ref kd, .ref mo, .ref st, .int 0, .ref ro, .ref tp, .int 40, .ref cd, .ref sr, .int 0, .int 0, .int 0, .ref ir, .ref ih, .ref ss, .ref sq, .ref ce, .ref lw, .int 26, .int 21, .int 0, .int 0, .ref wo, .ref he, .int 0, .int 0, .int 3, .ref sk, .ref na, .ref kp, .int 0, .int 0, .int 0, .int 0, .ref gb, .ref go, .ref fa, .ref ga, .int 0, .int 0, .ref vo])), (tp, .inl (G.2.1, 160, .inl (gPf tB 40))), (wo, .inl (G.2.1, 96, .inl (gPf tW 96)))] s.heap.size = A at hD ⊢
  have hA : ∀ q : Nat, s.heap.size ≤ q → A q := fun q h => by rw [← hAe]; exact Or.inr h
  have hS : va_S A s.heap s.heap [] := va_S.rf
  have hP : va_P G.1 vwCl [(h0, .inr (6, [.int 0, .ref kd, .ref mo, .ref st, .int 0, .ref ro, .ref tp, .int 40, .ref cd, .ref sr, .int 0, .int 0, .int 0, .ref ir, .ref ih, .ref ss, .ref sq, .ref ce, .ref lw, .int 26, .int 21, .int 0, .int 0, .ref wo, .ref he, .int 0, .int 0, .int 3, .ref sk, .ref na, .ref kp, .int 0, .int 0, .int 0, .int 0, .ref gb, .ref go, .ref fa, .ref ga, .int 0, .int 0, .ref vo])), (tp, .inl (G.2.1, 160, .inl (gPf tB 40))), (wo, .inl (G.2.1, 96, .inl (gPf tW 96)))] s.heap := hP
  have hD : va_D A [(h0, .inr (6, [.int 0, .ref kd, .ref mo, .ref st, .int 0, .ref ro, .ref tp, .int 40, .ref cd, .ref sr, .int 0, .int 0, .int 0, .ref ir, .ref ih, .ref ss, .ref sq, .ref ce, .ref lw, .int 26, .int 21, .int 0, .int 0, .ref wo, .ref he, .int 0, .int 0, .int 3, .ref sk, .ref na, .ref kp, .int 0, .int 0, .int 0, .int 0, .ref gb, .ref go, .ref fa, .ref ga, .int 0, .int 0, .ref vo])), (tp, .inl (G.2.1, 160, .inl (gPf tB 40))), (wo, .inl (G.2.1, 96, .inl (gPf tW 96)))] := hD
  have hl := lv_entry ([.ref h0, .int 21, .int 26]) (n := 6) (Nat.le_of_ble_eq_true rfl)
  rw [lg_entry_eq]
  generalize (lg_sl ([.ref h0, .int 21, .int 26]) ++ List.replicate (6 - (lg_sl ([.ref h0, .int 21, .int 26])).length) Slot.unset).toArray = ls at hl ⊢
  have hl : lv_has ls 6 [(0, .ref h0), (1, .int 21), (2, .int 26)] := hl
  have kf49 := hts (.fieldLink RX6 49 "PebbleInShoeModel" "words" "[I") (by decide +kernel)
  have hiX6 := (by decide +kernel : ∀ w ∈ wsX60, w ∈ wsX6_wordFrom)
  have kf22 := hts (.fieldLink RX6 22 "PebbleInShoeModel" "tape" "[I") (by decide +kernel)
  refine lv_iconst (v := 0) hx hb dX6_wordFrom_0 (by decide) ?_
  refine lv_istore_n (lv' := [(3, .int 0), (0, .ref h0), (1, .int 21), (2, .int 26)]) hx hb dX6_wordFrom_1 rfl hl (by decide) rfl (fun ls hl => ?_)
  refine lv_iload_n hx hb dX6_wordFrom_2 rfl (lv_at hl 0 rfl) ?_
  refine lv_bipush (v := 12) hx hb dX6_wordFrom_3 (by decide) ?_
  refine lv_icmp_ge (tgt := 101) hx hb dX6_wordFrom_5 (by decide) (fun c_1 => ?_) (fun c_1 => ?_)
  · exact absurd c_1 (by decide)
  refine lv_iload_n hx hb dX6_wordFrom_8 rfl (lv_at hl 3 rfl) ?_
  refine lv_iload_n hx hb dX6_wordFrom_9 rfl (lv_at hl 2 rfl) ?_
  refine lv_isub hx hb dX6_wordFrom_10 ?_
  refine lv_topi (fun v_2 ev_2 => ?_)
  have ev_2 : v_2 = 5 := ev_2.trans (by decide)
  subst ev_2
  refine lv_bipush (v := 8) hx hb dX6_wordFrom_11 (by decide) ?_
  refine lv_icmp_gt (tgt := 20) hx hb dX6_wordFrom_13 (by decide) (fun c_3 => ?_) (fun c_3 => ?_)
  · exact absurd c_3 (by decide)
  refine lv_iconst (v := 1) hx hb dX6_wordFrom_16 (by decide) ?_
  refine lv_goto (tgt := 21) hx hb dX6_wordFrom_17 (by decide) ?_
  refine lv_istore (lv' := [(4, .int 1), (3, .int 0), (0, .ref h0), (1, .int 21), (2, .int 26)]) hx hb dX6_wordFrom_21 hl (by decide) rfl (fun ls hl => ?_)
  refine lv_iconst (v := 0) hx hb dX6_wordFrom_23 (by decide) ?_
  refine lv_istore (lv' := [(5, .int 0), (4, .int 1), (3, .int 0), (0, .ref h0), (1, .int 21), (2, .int 26)]) hx hb dX6_wordFrom_24 hl (by decide) rfl (fun ls hl => ?_)
  refine lv_iload hx hb dX6_wordFrom_26 (lv_at hl 0 rfl) ?_
  refine lv_bipush (v := 8) hx hb dX6_wordFrom_28 (by decide) ?_
  refine lv_icmp_ge (tgt := 88) hx hb dX6_wordFrom_30 (by decide) (fun c_4 => ?_) (fun c_4 => ?_)
  · exact absurd c_4 (by decide)
  refine lv_iload hx hb dX6_wordFrom_33 (lv_at hl 1 rfl) ?_
  refine lv_if_eq (tgt := 88) hx hb dX6_wordFrom_35 (by decide) (fun c_5 => ?_) (fun c_5 => ?_)
  · exact absurd c_5 (by decide)
  refine lv_aload_n hx hb dX6_wordFrom_38 rfl (lv_at hl 3 rfl) ?_
  refine va_get (D := G.1) (ci := 6) (v := .ref wo) (C := RX6) (T := TX6) (N := 42) hx hb hts hiX6 hown hK hP 0 rfl rfl 23 (by decide) kf49 (fun _ h9 => h9) rfl dX6_wordFrom_39 ?_
  refine lv_bipush (v := 8) hx hb dX6_wordFrom_42 (by decide) ?_
  refine lv_iload_n hx hb dX6_wordFrom_44 rfl (lv_at hl 2 rfl) ?_
  refine lv_imul hx hb dX6_wordFrom_45 ?_
  refine lv_topi (fun v_6 ev_6 => ?_)
  have ev_6 : v_6 = 0 := ev_6.trans (by decide)
  subst ev_6
  refine lv_iload hx hb dX6_wordFrom_46 (lv_at hl 0 rfl) ?_
  refine lv_iadd hx hb dX6_wordFrom_48 ?_
  refine lv_topi (fun v_7 ev_7 => ?_)
  have ev_7 : v_7 = 0 := ev_7.trans (by decide)
  subst ev_7
  refine va_iald (D := G.1) hx hb hK hP 2 0 rfl rfl (i := 0) (gIn (by decide)) dX6_wordFrom_49 ?_
  refine lv_topi (fun v_8 ev_8 => ?_)
  have ev_8 : v_8 = 102 := ev_8.trans (by decide)
  subst ev_8
  refine lv_iload_n hx hb dX6_wordFrom_50 rfl (lv_at hl 4 rfl) ?_
  refine lv_iload hx hb dX6_wordFrom_51 (lv_at hl 0 rfl) ?_
  refine lv_iadd hx hb dX6_wordFrom_53 ?_
  refine lv_topi (fun v_9 ev_9 => ?_)
  have ev_9 : v_9 = 21 := ev_9.trans (by decide)
  subst ev_9
  refine lv_iload_n hx hb dX6_wordFrom_54 rfl (lv_at hl 5 rfl) ?_
  refine lv_icmp_ge (tgt := 70) hx hb dX6_wordFrom_55 (by decide) (fun c_10 => ?_) (fun c_10 => ?_)
  · exact absurd c_10 (by decide)
  refine lv_aload_n hx hb dX6_wordFrom_58 rfl (lv_at hl 3 rfl) ?_
  refine va_get (D := G.1) (ci := 6) (v := .ref tp) (C := RX6) (T := TX6) (N := 42) hx hb hts hiX6 hown hK hP 0 rfl rfl 6 (by decide) kf22 (fun _ h9 => h9) rfl dX6_wordFrom_59 ?_
  refine lv_iload_n hx hb dX6_wordFrom_62 rfl (lv_at hl 4 rfl) ?_
  refine lv_iload hx hb dX6_wordFrom_63 (lv_at hl 0 rfl) ?_
  refine lv_iadd hx hb dX6_wordFrom_65 ?_
  refine lv_topi (fun v_11 ev_11 => ?_)
  have ev_11 : v_11 = 21 := ev_11.trans (by decide)
  subst ev_11
  refine va_iald (D := G.1) hx hb hK hP 1 0 rfl rfl (i := 21) (gIn (by decide)) dX6_wordFrom_66 ?_
  refine lv_topi (fun v_12 ev_12 => ?_)
  have ev_12 : v_12 = 119 := ev_12.trans (by decide)
  subst ev_12
  refine lv_goto (tgt := 72) hx hb dX6_wordFrom_67 (by decide) ?_
  refine lv_icmp_ne (tgt := 79) hx hb dX6_wordFrom_72 (by decide) (fun c_13 => ?_) (fun c_13 => ?_)
  rotate_left
  · exact absurd c_13 (by decide)
  refine lv_iconst (v := 0) hx hb dX6_wordFrom_79 (by decide) ?_
  refine lv_istore (lv' := [(4, .int 0), (5, .int 0), (3, .int 0), (0, .ref h0), (1, .int 21), (2, .int 26)]) hx hb dX6_wordFrom_80 hl (by decide) rfl (fun ls hl => ?_)
  refine lv_iinc (v := 1) (lv' := [(5, .int 1), (4, .int 0), (3, .int 0), (0, .ref h0), (1, .int 21), (2, .int 26)]) hx hb dX6_wordFrom_82 hl (k := 1) rfl (by decide) (by decide) rfl (fun ls hl => ?_)
  refine lv_goto (tgt := 26) hx hb dX6_wordFrom_85 (by decide) ?_
  refine lv_iload hx hb dX6_wordFrom_26 (lv_at hl 0 rfl) ?_
  refine lv_bipush (v := 8) hx hb dX6_wordFrom_28 (by decide) ?_
  refine lv_icmp_ge (tgt := 88) hx hb dX6_wordFrom_30 (by decide) (fun c_14 => ?_) (fun c_14 => ?_)
  · exact absurd c_14 (by decide)
  refine lv_iload hx hb dX6_wordFrom_33 (lv_at hl 1 rfl) ?_
  refine lv_if_eq (tgt := 88) hx hb dX6_wordFrom_35 (by decide) (fun c_15 => ?_) (fun c_15 => ?_)
  rotate_left
  · exact absurd (by decide) c_15
  refine lv_iload hx hb dX6_wordFrom_88 (lv_at hl 1 rfl) ?_
  refine lv_if_eq (tgt := 95) hx hb dX6_wordFrom_90 (by decide) (fun c_16 => ?_) (fun c_16 => ?_)
  rotate_left
  · exact absurd (by decide) c_16
  refine lv_iinc (v := 1) (lv' := [(3, .int 1), (5, .int 1), (4, .int 0), (0, .ref h0), (1, .int 21), (2, .int 26)]) hx hb dX6_wordFrom_95 hl (k := 2) rfl (by decide) (by decide) rfl (fun ls hl => ?_)
  refine lv_goto (tgt := 2) hx hb dX6_wordFrom_98 (by decide) ?_
  refine lv_iload_n hx hb dX6_wordFrom_2 rfl (lv_at hl 0 rfl) ?_
  refine lv_bipush (v := 12) hx hb dX6_wordFrom_3 (by decide) ?_
  refine lv_icmp_ge (tgt := 101) hx hb dX6_wordFrom_5 (by decide) (fun c_17 => ?_) (fun c_17 => ?_)
  · exact absurd c_17 (by decide)
  refine lv_iload_n hx hb dX6_wordFrom_8 rfl (lv_at hl 5 rfl) ?_
  refine lv_iload_n hx hb dX6_wordFrom_9 rfl (lv_at hl 4 rfl) ?_
  refine lv_isub hx hb dX6_wordFrom_10 ?_
  refine lv_topi (fun v_18 ev_18 => ?_)
  have ev_18 : v_18 = 5 := ev_18.trans (by decide)
  subst ev_18
  refine lv_bipush (v := 8) hx hb dX6_wordFrom_11 (by decide) ?_
  refine lv_icmp_gt (tgt := 20) hx hb dX6_wordFrom_13 (by decide) (fun c_19 => ?_) (fun c_19 => ?_)
  · exact absurd c_19 (by decide)
  refine lv_iconst (v := 1) hx hb dX6_wordFrom_16 (by decide) ?_
  refine lv_goto (tgt := 21) hx hb dX6_wordFrom_17 (by decide) ?_
  refine lv_istore (lv' := [(4, .int 1), (3, .int 1), (5, .int 1), (0, .ref h0), (1, .int 21), (2, .int 26)]) hx hb dX6_wordFrom_21 hl (by decide) rfl (fun ls hl => ?_)
  refine lv_iconst (v := 0) hx hb dX6_wordFrom_23 (by decide) ?_
  refine lv_istore (lv' := [(5, .int 0), (4, .int 1), (3, .int 1), (0, .ref h0), (1, .int 21), (2, .int 26)]) hx hb dX6_wordFrom_24 hl (by decide) rfl (fun ls hl => ?_)
  refine lv_iload hx hb dX6_wordFrom_26 (lv_at hl 0 rfl) ?_
  refine lv_bipush (v := 8) hx hb dX6_wordFrom_28 (by decide) ?_
  refine lv_icmp_ge (tgt := 88) hx hb dX6_wordFrom_30 (by decide) (fun c_20 => ?_) (fun c_20 => ?_)
  · exact absurd c_20 (by decide)
  refine lv_iload hx hb dX6_wordFrom_33 (lv_at hl 1 rfl) ?_
  refine lv_if_eq (tgt := 88) hx hb dX6_wordFrom_35 (by decide) (fun c_21 => ?_) (fun c_21 => ?_)
  · exact absurd c_21 (by decide)
  refine lv_aload_n hx hb dX6_wordFrom_38 rfl (lv_at hl 3 rfl) ?_
  refine va_get (D := G.1) (ci := 6) (v := .ref wo) (C := RX6) (T := TX6) (N := 42) hx hb hts hiX6 hown hK hP 0 rfl rfl 23 (by decide) kf49 (fun _ h9 => h9) rfl dX6_wordFrom_39 ?_
  refine lv_bipush (v := 8) hx hb dX6_wordFrom_42 (by decide) ?_
  refine lv_iload_n hx hb dX6_wordFrom_44 rfl (lv_at hl 2 rfl) ?_
  refine lv_imul hx hb dX6_wordFrom_45 ?_
  refine lv_topi (fun v_22 ev_22 => ?_)
  have ev_22 : v_22 = 8 := ev_22.trans (by decide)
  subst ev_22
  refine lv_iload hx hb dX6_wordFrom_46 (lv_at hl 0 rfl) ?_
  refine lv_iadd hx hb dX6_wordFrom_48 ?_
  refine lv_topi (fun v_23 ev_23 => ?_)
  have ev_23 : v_23 = 8 := ev_23.trans (by decide)
  subst ev_23
  refine va_iald (D := G.1) hx hb hK hP 2 0 rfl rfl (i := 8) (gIn (by decide)) dX6_wordFrom_49 ?_
  refine lv_topi (fun v_24 ev_24 => ?_)
  have ev_24 : v_24 = 119 := ev_24.trans (by decide)
  subst ev_24
  refine lv_iload_n hx hb dX6_wordFrom_50 rfl (lv_at hl 4 rfl) ?_
  refine lv_iload hx hb dX6_wordFrom_51 (lv_at hl 0 rfl) ?_
  refine lv_iadd hx hb dX6_wordFrom_53 ?_
  refine lv_topi (fun v_25 ev_25 => ?_)
  have ev_25 : v_25 = 21 := ev_25.trans (by decide)
  subst ev_25
  refine lv_iload_n hx hb dX6_wordFrom_54 rfl (lv_at hl 5 rfl) ?_
  refine lv_icmp_ge (tgt := 70) hx hb dX6_wordFrom_55 (by decide) (fun c_26 => ?_) (fun c_26 => ?_)
  · exact absurd c_26 (by decide)
  refine lv_aload_n hx hb dX6_wordFrom_58 rfl (lv_at hl 3 rfl) ?_
  refine va_get (D := G.1) (ci := 6) (v := .ref tp) (C := RX6) (T := TX6) (N := 42) hx hb hts hiX6 hown hK hP 0 rfl rfl 6 (by decide) kf22 (fun _ h9 => h9) rfl dX6_wordFrom_59 ?_
  refine lv_iload_n hx hb dX6_wordFrom_62 rfl (lv_at hl 4 rfl) ?_
  refine lv_iload hx hb dX6_wordFrom_63 (lv_at hl 0 rfl) ?_
  refine lv_iadd hx hb dX6_wordFrom_65 ?_
  refine lv_topi (fun v_27 ev_27 => ?_)
  have ev_27 : v_27 = 21 := ev_27.trans (by decide)
  subst ev_27
  refine va_iald (D := G.1) hx hb hK hP 1 0 rfl rfl (i := 21) (gIn (by decide)) dX6_wordFrom_66 ?_
  refine lv_topi (fun v_28 ev_28 => ?_)
  have ev_28 : v_28 = 119 := ev_28.trans (by decide)
  subst ev_28
  refine lv_goto (tgt := 72) hx hb dX6_wordFrom_67 (by decide) ?_
  refine lv_icmp_ne (tgt := 79) hx hb dX6_wordFrom_72 (by decide) (fun c_29 => ?_) (fun c_29 => ?_)
  · exact absurd (by decide) c_29
  refine lv_iconst (v := 1) hx hb dX6_wordFrom_75 (by decide) ?_
  refine lv_goto (tgt := 80) hx hb dX6_wordFrom_76 (by decide) ?_
  refine lv_istore (lv' := [(4, .int 1), (5, .int 0), (3, .int 1), (0, .ref h0), (1, .int 21), (2, .int 26)]) hx hb dX6_wordFrom_80 hl (by decide) rfl (fun ls hl => ?_)
  refine lv_iinc (v := 1) (lv' := [(5, .int 1), (4, .int 1), (3, .int 1), (0, .ref h0), (1, .int 21), (2, .int 26)]) hx hb dX6_wordFrom_82 hl (k := 1) rfl (by decide) (by decide) rfl (fun ls hl => ?_)
  refine lv_goto (tgt := 26) hx hb dX6_wordFrom_85 (by decide) ?_
  refine lv_iload hx hb dX6_wordFrom_26 (lv_at hl 0 rfl) ?_
  refine lv_bipush (v := 8) hx hb dX6_wordFrom_28 (by decide) ?_
  refine lv_icmp_ge (tgt := 88) hx hb dX6_wordFrom_30 (by decide) (fun c_30 => ?_) (fun c_30 => ?_)
  · exact absurd c_30 (by decide)
  refine lv_iload hx hb dX6_wordFrom_33 (lv_at hl 1 rfl) ?_
  refine lv_if_eq (tgt := 88) hx hb dX6_wordFrom_35 (by decide) (fun c_31 => ?_) (fun c_31 => ?_)
  · exact absurd c_31 (by decide)
  refine lv_aload_n hx hb dX6_wordFrom_38 rfl (lv_at hl 3 rfl) ?_
  refine va_get (D := G.1) (ci := 6) (v := .ref wo) (C := RX6) (T := TX6) (N := 42) hx hb hts hiX6 hown hK hP 0 rfl rfl 23 (by decide) kf49 (fun _ h9 => h9) rfl dX6_wordFrom_39 ?_
  refine lv_bipush (v := 8) hx hb dX6_wordFrom_42 (by decide) ?_
  refine lv_iload_n hx hb dX6_wordFrom_44 rfl (lv_at hl 2 rfl) ?_
  refine lv_imul hx hb dX6_wordFrom_45 ?_
  refine lv_topi (fun v_32 ev_32 => ?_)
  have ev_32 : v_32 = 8 := ev_32.trans (by decide)
  subst ev_32
  refine lv_iload hx hb dX6_wordFrom_46 (lv_at hl 0 rfl) ?_
  refine lv_iadd hx hb dX6_wordFrom_48 ?_
  refine lv_topi (fun v_33 ev_33 => ?_)
  have ev_33 : v_33 = 9 := ev_33.trans (by decide)
  subst ev_33
  refine va_iald (D := G.1) hx hb hK hP 2 0 rfl rfl (i := 9) (gIn (by decide)) dX6_wordFrom_49 ?_
  refine lv_topi (fun v_34 ev_34 => ?_)
  have ev_34 : v_34 = 101 := ev_34.trans (by decide)
  subst ev_34
  refine lv_iload_n hx hb dX6_wordFrom_50 rfl (lv_at hl 4 rfl) ?_
  refine lv_iload hx hb dX6_wordFrom_51 (lv_at hl 0 rfl) ?_
  refine lv_iadd hx hb dX6_wordFrom_53 ?_
  refine lv_topi (fun v_35 ev_35 => ?_)
  have ev_35 : v_35 = 22 := ev_35.trans (by decide)
  subst ev_35
  refine lv_iload_n hx hb dX6_wordFrom_54 rfl (lv_at hl 5 rfl) ?_
  refine lv_icmp_ge (tgt := 70) hx hb dX6_wordFrom_55 (by decide) (fun c_36 => ?_) (fun c_36 => ?_)
  · exact absurd c_36 (by decide)
  refine lv_aload_n hx hb dX6_wordFrom_58 rfl (lv_at hl 3 rfl) ?_
  refine va_get (D := G.1) (ci := 6) (v := .ref tp) (C := RX6) (T := TX6) (N := 42) hx hb hts hiX6 hown hK hP 0 rfl rfl 6 (by decide) kf22 (fun _ h9 => h9) rfl dX6_wordFrom_59 ?_
  refine lv_iload_n hx hb dX6_wordFrom_62 rfl (lv_at hl 4 rfl) ?_
  refine lv_iload hx hb dX6_wordFrom_63 (lv_at hl 0 rfl) ?_
  refine lv_iadd hx hb dX6_wordFrom_65 ?_
  refine lv_topi (fun v_37 ev_37 => ?_)
  have ev_37 : v_37 = 22 := ev_37.trans (by decide)
  subst ev_37
  refine va_iald (D := G.1) hx hb hK hP 1 0 rfl rfl (i := 22) (gIn (by decide)) dX6_wordFrom_66 ?_
  refine lv_topi (fun v_38 ev_38 => ?_)
  have ev_38 : v_38 = 101 := ev_38.trans (by decide)
  subst ev_38
  refine lv_goto (tgt := 72) hx hb dX6_wordFrom_67 (by decide) ?_
  refine lv_icmp_ne (tgt := 79) hx hb dX6_wordFrom_72 (by decide) (fun c_39 => ?_) (fun c_39 => ?_)
  · exact absurd (by decide) c_39
  refine lv_iconst (v := 1) hx hb dX6_wordFrom_75 (by decide) ?_
  refine lv_goto (tgt := 80) hx hb dX6_wordFrom_76 (by decide) ?_
  refine lv_istore (lv' := [(4, .int 1), (5, .int 1), (3, .int 1), (0, .ref h0), (1, .int 21), (2, .int 26)]) hx hb dX6_wordFrom_80 hl (by decide) rfl (fun ls hl => ?_)
  refine lv_iinc (v := 2) (lv' := [(5, .int 2), (4, .int 1), (3, .int 1), (0, .ref h0), (1, .int 21), (2, .int 26)]) hx hb dX6_wordFrom_82 hl (k := 1) rfl (by decide) (by decide) rfl (fun ls hl => ?_)
  refine lv_goto (tgt := 26) hx hb dX6_wordFrom_85 (by decide) ?_
  refine lv_iload hx hb dX6_wordFrom_26 (lv_at hl 0 rfl) ?_
  refine lv_bipush (v := 8) hx hb dX6_wordFrom_28 (by decide) ?_
  refine lv_icmp_ge (tgt := 88) hx hb dX6_wordFrom_30 (by decide) (fun c_40 => ?_) (fun c_40 => ?_)
  · exact absurd c_40 (by decide)
  refine lv_iload hx hb dX6_wordFrom_33 (lv_at hl 1 rfl) ?_
  refine lv_if_eq (tgt := 88) hx hb dX6_wordFrom_35 (by decide) (fun c_41 => ?_) (fun c_41 => ?_)
  · exact absurd c_41 (by decide)
  refine lv_aload_n hx hb dX6_wordFrom_38 rfl (lv_at hl 3 rfl) ?_
  refine va_get (D := G.1) (ci := 6) (v := .ref wo) (C := RX6) (T := TX6) (N := 42) hx hb hts hiX6 hown hK hP 0 rfl rfl 23 (by decide) kf49 (fun _ h9 => h9) rfl dX6_wordFrom_39 ?_
  refine lv_bipush (v := 8) hx hb dX6_wordFrom_42 (by decide) ?_
  refine lv_iload_n hx hb dX6_wordFrom_44 rfl (lv_at hl 2 rfl) ?_
  refine lv_imul hx hb dX6_wordFrom_45 ?_
  refine lv_topi (fun v_42 ev_42 => ?_)
  have ev_42 : v_42 = 8 := ev_42.trans (by decide)
  subst ev_42
  refine lv_iload hx hb dX6_wordFrom_46 (lv_at hl 0 rfl) ?_
  refine lv_iadd hx hb dX6_wordFrom_48 ?_
  refine lv_topi (fun v_43 ev_43 => ?_)
  have ev_43 : v_43 = 10 := ev_43.trans (by decide)
  subst ev_43
  refine va_iald (D := G.1) hx hb hK hP 2 0 rfl rfl (i := 10) (gIn (by decide)) dX6_wordFrom_49 ?_
  refine lv_topi (fun v_44 ev_44 => ?_)
  have ev_44 : v_44 = 97 := ev_44.trans (by decide)
  subst ev_44
  refine lv_iload_n hx hb dX6_wordFrom_50 rfl (lv_at hl 4 rfl) ?_
  refine lv_iload hx hb dX6_wordFrom_51 (lv_at hl 0 rfl) ?_
  refine lv_iadd hx hb dX6_wordFrom_53 ?_
  refine lv_topi (fun v_45 ev_45 => ?_)
  have ev_45 : v_45 = 23 := ev_45.trans (by decide)
  subst ev_45
  refine lv_iload_n hx hb dX6_wordFrom_54 rfl (lv_at hl 5 rfl) ?_
  refine lv_icmp_ge (tgt := 70) hx hb dX6_wordFrom_55 (by decide) (fun c_46 => ?_) (fun c_46 => ?_)
  · exact absurd c_46 (by decide)
  refine lv_aload_n hx hb dX6_wordFrom_58 rfl (lv_at hl 3 rfl) ?_
  refine va_get (D := G.1) (ci := 6) (v := .ref tp) (C := RX6) (T := TX6) (N := 42) hx hb hts hiX6 hown hK hP 0 rfl rfl 6 (by decide) kf22 (fun _ h9 => h9) rfl dX6_wordFrom_59 ?_
  refine lv_iload_n hx hb dX6_wordFrom_62 rfl (lv_at hl 4 rfl) ?_
  refine lv_iload hx hb dX6_wordFrom_63 (lv_at hl 0 rfl) ?_
  refine lv_iadd hx hb dX6_wordFrom_65 ?_
  refine lv_topi (fun v_47 ev_47 => ?_)
  have ev_47 : v_47 = 23 := ev_47.trans (by decide)
  subst ev_47
  refine va_iald (D := G.1) hx hb hK hP 1 0 rfl rfl (i := 23) (gIn (by decide)) dX6_wordFrom_66 ?_
  refine lv_topi (fun v_48 ev_48 => ?_)
  have ev_48 : v_48 = 97 := ev_48.trans (by decide)
  subst ev_48
  refine lv_goto (tgt := 72) hx hb dX6_wordFrom_67 (by decide) ?_
  refine lv_icmp_ne (tgt := 79) hx hb dX6_wordFrom_72 (by decide) (fun c_49 => ?_) (fun c_49 => ?_)
  · exact absurd (by decide) c_49
  refine lv_iconst (v := 1) hx hb dX6_wordFrom_75 (by decide) ?_
  refine lv_goto (tgt := 80) hx hb dX6_wordFrom_76 (by decide) ?_
  refine lv_istore (lv' := [(4, .int 1), (5, .int 2), (3, .int 1), (0, .ref h0), (1, .int 21), (2, .int 26)]) hx hb dX6_wordFrom_80 hl (by decide) rfl (fun ls hl => ?_)
  refine lv_iinc (v := 3) (lv' := [(5, .int 3), (4, .int 1), (3, .int 1), (0, .ref h0), (1, .int 21), (2, .int 26)]) hx hb dX6_wordFrom_82 hl (k := 1) rfl (by decide) (by decide) rfl (fun ls hl => ?_)
  refine lv_goto (tgt := 26) hx hb dX6_wordFrom_85 (by decide) ?_
  refine lv_iload hx hb dX6_wordFrom_26 (lv_at hl 0 rfl) ?_
  refine lv_bipush (v := 8) hx hb dX6_wordFrom_28 (by decide) ?_
  refine lv_icmp_ge (tgt := 88) hx hb dX6_wordFrom_30 (by decide) (fun c_50 => ?_) (fun c_50 => ?_)
  · exact absurd c_50 (by decide)
  refine lv_iload hx hb dX6_wordFrom_33 (lv_at hl 1 rfl) ?_
  refine lv_if_eq (tgt := 88) hx hb dX6_wordFrom_35 (by decide) (fun c_51 => ?_) (fun c_51 => ?_)
  · exact absurd c_51 (by decide)
  refine lv_aload_n hx hb dX6_wordFrom_38 rfl (lv_at hl 3 rfl) ?_
  refine va_get (D := G.1) (ci := 6) (v := .ref wo) (C := RX6) (T := TX6) (N := 42) hx hb hts hiX6 hown hK hP 0 rfl rfl 23 (by decide) kf49 (fun _ h9 => h9) rfl dX6_wordFrom_39 ?_
  refine lv_bipush (v := 8) hx hb dX6_wordFrom_42 (by decide) ?_
  refine lv_iload_n hx hb dX6_wordFrom_44 rfl (lv_at hl 2 rfl) ?_
  refine lv_imul hx hb dX6_wordFrom_45 ?_
  refine lv_topi (fun v_52 ev_52 => ?_)
  have ev_52 : v_52 = 8 := ev_52.trans (by decide)
  subst ev_52
  refine lv_iload hx hb dX6_wordFrom_46 (lv_at hl 0 rfl) ?_
  refine lv_iadd hx hb dX6_wordFrom_48 ?_
  refine lv_topi (fun v_53 ev_53 => ?_)
  have ev_53 : v_53 = 11 := ev_53.trans (by decide)
  subst ev_53
  refine va_iald (D := G.1) hx hb hK hP 2 0 rfl rfl (i := 11) (gIn (by decide)) dX6_wordFrom_49 ?_
  refine lv_topi (fun v_54 ev_54 => ?_)
  have ev_54 : v_54 = 114 := ev_54.trans (by decide)
  subst ev_54
  refine lv_iload_n hx hb dX6_wordFrom_50 rfl (lv_at hl 4 rfl) ?_
  refine lv_iload hx hb dX6_wordFrom_51 (lv_at hl 0 rfl) ?_
  refine lv_iadd hx hb dX6_wordFrom_53 ?_
  refine lv_topi (fun v_55 ev_55 => ?_)
  have ev_55 : v_55 = 24 := ev_55.trans (by decide)
  subst ev_55
  refine lv_iload_n hx hb dX6_wordFrom_54 rfl (lv_at hl 5 rfl) ?_
  refine lv_icmp_ge (tgt := 70) hx hb dX6_wordFrom_55 (by decide) (fun c_56 => ?_) (fun c_56 => ?_)
  · exact absurd c_56 (by decide)
  refine lv_aload_n hx hb dX6_wordFrom_58 rfl (lv_at hl 3 rfl) ?_
  refine va_get (D := G.1) (ci := 6) (v := .ref tp) (C := RX6) (T := TX6) (N := 42) hx hb hts hiX6 hown hK hP 0 rfl rfl 6 (by decide) kf22 (fun _ h9 => h9) rfl dX6_wordFrom_59 ?_
  refine lv_iload_n hx hb dX6_wordFrom_62 rfl (lv_at hl 4 rfl) ?_
  refine lv_iload hx hb dX6_wordFrom_63 (lv_at hl 0 rfl) ?_
  refine lv_iadd hx hb dX6_wordFrom_65 ?_
  refine lv_topi (fun v_57 ev_57 => ?_)
  have ev_57 : v_57 = 24 := ev_57.trans (by decide)
  subst ev_57
  refine va_iald (D := G.1) hx hb hK hP 1 0 rfl rfl (i := 24) (gIn (by decide)) dX6_wordFrom_66 ?_
  refine lv_topi (fun v_58 ev_58 => ?_)
  have ev_58 : v_58 = 114 := ev_58.trans (by decide)
  subst ev_58
  refine lv_goto (tgt := 72) hx hb dX6_wordFrom_67 (by decide) ?_
  refine lv_icmp_ne (tgt := 79) hx hb dX6_wordFrom_72 (by decide) (fun c_59 => ?_) (fun c_59 => ?_)
  · exact absurd (by decide) c_59
  refine lv_iconst (v := 1) hx hb dX6_wordFrom_75 (by decide) ?_
  refine lv_goto (tgt := 80) hx hb dX6_wordFrom_76 (by decide) ?_
  refine lv_istore (lv' := [(4, .int 1), (5, .int 3), (3, .int 1), (0, .ref h0), (1, .int 21), (2, .int 26)]) hx hb dX6_wordFrom_80 hl (by decide) rfl (fun ls hl => ?_)
  refine lv_iinc (v := 4) (lv' := [(5, .int 4), (4, .int 1), (3, .int 1), (0, .ref h0), (1, .int 21), (2, .int 26)]) hx hb dX6_wordFrom_82 hl (k := 1) rfl (by decide) (by decide) rfl (fun ls hl => ?_)
  refine lv_goto (tgt := 26) hx hb dX6_wordFrom_85 (by decide) ?_
  refine lv_iload hx hb dX6_wordFrom_26 (lv_at hl 0 rfl) ?_
  refine lv_bipush (v := 8) hx hb dX6_wordFrom_28 (by decide) ?_
  refine lv_icmp_ge (tgt := 88) hx hb dX6_wordFrom_30 (by decide) (fun c_60 => ?_) (fun c_60 => ?_)
  · exact absurd c_60 (by decide)
  refine lv_iload hx hb dX6_wordFrom_33 (lv_at hl 1 rfl) ?_
  refine lv_if_eq (tgt := 88) hx hb dX6_wordFrom_35 (by decide) (fun c_61 => ?_) (fun c_61 => ?_)
  · exact absurd c_61 (by decide)
  refine lv_aload_n hx hb dX6_wordFrom_38 rfl (lv_at hl 3 rfl) ?_
  refine va_get (D := G.1) (ci := 6) (v := .ref wo) (C := RX6) (T := TX6) (N := 42) hx hb hts hiX6 hown hK hP 0 rfl rfl 23 (by decide) kf49 (fun _ h9 => h9) rfl dX6_wordFrom_39 ?_
  refine lv_bipush (v := 8) hx hb dX6_wordFrom_42 (by decide) ?_
  refine lv_iload_n hx hb dX6_wordFrom_44 rfl (lv_at hl 2 rfl) ?_
  refine lv_imul hx hb dX6_wordFrom_45 ?_
  refine lv_topi (fun v_62 ev_62 => ?_)
  have ev_62 : v_62 = 8 := ev_62.trans (by decide)
  subst ev_62
  refine lv_iload hx hb dX6_wordFrom_46 (lv_at hl 0 rfl) ?_
  refine lv_iadd hx hb dX6_wordFrom_48 ?_
  refine lv_topi (fun v_63 ev_63 => ?_)
  have ev_63 : v_63 = 12 := ev_63.trans (by decide)
  subst ev_63
  refine va_iald (D := G.1) hx hb hK hP 2 0 rfl rfl (i := 12) (gIn (by decide)) dX6_wordFrom_49 ?_
  refine lv_topi (fun v_64 ev_64 => ?_)
  have ev_64 : v_64 = 115 := ev_64.trans (by decide)
  subst ev_64
  refine lv_iload_n hx hb dX6_wordFrom_50 rfl (lv_at hl 4 rfl) ?_
  refine lv_iload hx hb dX6_wordFrom_51 (lv_at hl 0 rfl) ?_
  refine lv_iadd hx hb dX6_wordFrom_53 ?_
  refine lv_topi (fun v_65 ev_65 => ?_)
  have ev_65 : v_65 = 25 := ev_65.trans (by decide)
  subst ev_65
  refine lv_iload_n hx hb dX6_wordFrom_54 rfl (lv_at hl 5 rfl) ?_
  refine lv_icmp_ge (tgt := 70) hx hb dX6_wordFrom_55 (by decide) (fun c_66 => ?_) (fun c_66 => ?_)
  · exact absurd c_66 (by decide)
  refine lv_aload_n hx hb dX6_wordFrom_58 rfl (lv_at hl 3 rfl) ?_
  refine va_get (D := G.1) (ci := 6) (v := .ref tp) (C := RX6) (T := TX6) (N := 42) hx hb hts hiX6 hown hK hP 0 rfl rfl 6 (by decide) kf22 (fun _ h9 => h9) rfl dX6_wordFrom_59 ?_
  refine lv_iload_n hx hb dX6_wordFrom_62 rfl (lv_at hl 4 rfl) ?_
  refine lv_iload hx hb dX6_wordFrom_63 (lv_at hl 0 rfl) ?_
  refine lv_iadd hx hb dX6_wordFrom_65 ?_
  refine lv_topi (fun v_67 ev_67 => ?_)
  have ev_67 : v_67 = 25 := ev_67.trans (by decide)
  subst ev_67
  refine va_iald (D := G.1) hx hb hK hP 1 0 rfl rfl (i := 25) (gIn (by decide)) dX6_wordFrom_66 ?_
  refine lv_topi (fun v_68 ev_68 => ?_)
  have ev_68 : v_68 = 115 := ev_68.trans (by decide)
  subst ev_68
  refine lv_goto (tgt := 72) hx hb dX6_wordFrom_67 (by decide) ?_
  refine lv_icmp_ne (tgt := 79) hx hb dX6_wordFrom_72 (by decide) (fun c_69 => ?_) (fun c_69 => ?_)
  · exact absurd (by decide) c_69
  refine lv_iconst (v := 1) hx hb dX6_wordFrom_75 (by decide) ?_
  refine lv_goto (tgt := 80) hx hb dX6_wordFrom_76 (by decide) ?_
  refine lv_istore (lv' := [(4, .int 1), (5, .int 4), (3, .int 1), (0, .ref h0), (1, .int 21), (2, .int 26)]) hx hb dX6_wordFrom_80 hl (by decide) rfl (fun ls hl => ?_)
  refine lv_iinc (v := 5) (lv' := [(5, .int 5), (4, .int 1), (3, .int 1), (0, .ref h0), (1, .int 21), (2, .int 26)]) hx hb dX6_wordFrom_82 hl (k := 1) rfl (by decide) (by decide) rfl (fun ls hl => ?_)
  refine lv_goto (tgt := 26) hx hb dX6_wordFrom_85 (by decide) ?_
  refine lv_iload hx hb dX6_wordFrom_26 (lv_at hl 0 rfl) ?_
  refine lv_bipush (v := 8) hx hb dX6_wordFrom_28 (by decide) ?_
  refine lv_icmp_ge (tgt := 88) hx hb dX6_wordFrom_30 (by decide) (fun c_70 => ?_) (fun c_70 => ?_)
  · exact absurd c_70 (by decide)
  refine lv_iload hx hb dX6_wordFrom_33 (lv_at hl 1 rfl) ?_
  refine lv_if_eq (tgt := 88) hx hb dX6_wordFrom_35 (by decide) (fun c_71 => ?_) (fun c_71 => ?_)
  · exact absurd c_71 (by decide)
  refine lv_aload_n hx hb dX6_wordFrom_38 rfl (lv_at hl 3 rfl) ?_
  refine va_get (D := G.1) (ci := 6) (v := .ref wo) (C := RX6) (T := TX6) (N := 42) hx hb hts hiX6 hown hK hP 0 rfl rfl 23 (by decide) kf49 (fun _ h9 => h9) rfl dX6_wordFrom_39 ?_
  refine lv_bipush (v := 8) hx hb dX6_wordFrom_42 (by decide) ?_
  refine lv_iload_n hx hb dX6_wordFrom_44 rfl (lv_at hl 2 rfl) ?_
  refine lv_imul hx hb dX6_wordFrom_45 ?_
  refine lv_topi (fun v_72 ev_72 => ?_)
  have ev_72 : v_72 = 8 := ev_72.trans (by decide)
  subst ev_72
  refine lv_iload hx hb dX6_wordFrom_46 (lv_at hl 0 rfl) ?_
  refine lv_iadd hx hb dX6_wordFrom_48 ?_
  refine lv_topi (fun v_73 ev_73 => ?_)
  have ev_73 : v_73 = 13 := ev_73.trans (by decide)
  subst ev_73
  refine va_iald (D := G.1) hx hb hK hP 2 0 rfl rfl (i := 13) (gIn (by decide)) dX6_wordFrom_49 ?_
  refine lv_topi (fun v_74 ev_74 => ?_)
  have ev_74 : v_74 = 32 := ev_74.trans (by decide)
  subst ev_74
  refine lv_iload_n hx hb dX6_wordFrom_50 rfl (lv_at hl 4 rfl) ?_
  refine lv_iload hx hb dX6_wordFrom_51 (lv_at hl 0 rfl) ?_
  refine lv_iadd hx hb dX6_wordFrom_53 ?_
  refine lv_topi (fun v_75 ev_75 => ?_)
  have ev_75 : v_75 = 26 := ev_75.trans (by decide)
  subst ev_75
  refine lv_iload_n hx hb dX6_wordFrom_54 rfl (lv_at hl 5 rfl) ?_
  refine lv_icmp_ge (tgt := 70) hx hb dX6_wordFrom_55 (by decide) (fun c_76 => ?_) (fun c_76 => ?_)
  rotate_left
  · exact absurd (by decide) c_76
  refine lv_bipush (v := 32) hx hb dX6_wordFrom_70 (by decide) ?_
  refine lv_icmp_ne (tgt := 79) hx hb dX6_wordFrom_72 (by decide) (fun c_77 => ?_) (fun c_77 => ?_)
  · exact absurd (by decide) c_77
  refine lv_iconst (v := 1) hx hb dX6_wordFrom_75 (by decide) ?_
  refine lv_goto (tgt := 80) hx hb dX6_wordFrom_76 (by decide) ?_
  refine lv_istore (lv' := [(4, .int 1), (5, .int 5), (3, .int 1), (0, .ref h0), (1, .int 21), (2, .int 26)]) hx hb dX6_wordFrom_80 hl (by decide) rfl (fun ls hl => ?_)
  refine lv_iinc (v := 6) (lv' := [(5, .int 6), (4, .int 1), (3, .int 1), (0, .ref h0), (1, .int 21), (2, .int 26)]) hx hb dX6_wordFrom_82 hl (k := 1) rfl (by decide) (by decide) rfl (fun ls hl => ?_)
  refine lv_goto (tgt := 26) hx hb dX6_wordFrom_85 (by decide) ?_
  refine lv_iload hx hb dX6_wordFrom_26 (lv_at hl 0 rfl) ?_
  refine lv_bipush (v := 8) hx hb dX6_wordFrom_28 (by decide) ?_
  refine lv_icmp_ge (tgt := 88) hx hb dX6_wordFrom_30 (by decide) (fun c_78 => ?_) (fun c_78 => ?_)
  · exact absurd c_78 (by decide)
  refine lv_iload hx hb dX6_wordFrom_33 (lv_at hl 1 rfl) ?_
  refine lv_if_eq (tgt := 88) hx hb dX6_wordFrom_35 (by decide) (fun c_79 => ?_) (fun c_79 => ?_)
  · exact absurd c_79 (by decide)
  refine lv_aload_n hx hb dX6_wordFrom_38 rfl (lv_at hl 3 rfl) ?_
  refine va_get (D := G.1) (ci := 6) (v := .ref wo) (C := RX6) (T := TX6) (N := 42) hx hb hts hiX6 hown hK hP 0 rfl rfl 23 (by decide) kf49 (fun _ h9 => h9) rfl dX6_wordFrom_39 ?_
  refine lv_bipush (v := 8) hx hb dX6_wordFrom_42 (by decide) ?_
  refine lv_iload_n hx hb dX6_wordFrom_44 rfl (lv_at hl 2 rfl) ?_
  refine lv_imul hx hb dX6_wordFrom_45 ?_
  refine lv_topi (fun v_80 ev_80 => ?_)
  have ev_80 : v_80 = 8 := ev_80.trans (by decide)
  subst ev_80
  refine lv_iload hx hb dX6_wordFrom_46 (lv_at hl 0 rfl) ?_
  refine lv_iadd hx hb dX6_wordFrom_48 ?_
  refine lv_topi (fun v_81 ev_81 => ?_)
  have ev_81 : v_81 = 14 := ev_81.trans (by decide)
  subst ev_81
  refine va_iald (D := G.1) hx hb hK hP 2 0 rfl rfl (i := 14) (gIn (by decide)) dX6_wordFrom_49 ?_
  refine lv_topi (fun v_82 ev_82 => ?_)
  have ev_82 : v_82 = 32 := ev_82.trans (by decide)
  subst ev_82
  refine lv_iload_n hx hb dX6_wordFrom_50 rfl (lv_at hl 4 rfl) ?_
  refine lv_iload hx hb dX6_wordFrom_51 (lv_at hl 0 rfl) ?_
  refine lv_iadd hx hb dX6_wordFrom_53 ?_
  refine lv_topi (fun v_83 ev_83 => ?_)
  have ev_83 : v_83 = 27 := ev_83.trans (by decide)
  subst ev_83
  refine lv_iload_n hx hb dX6_wordFrom_54 rfl (lv_at hl 5 rfl) ?_
  refine lv_icmp_ge (tgt := 70) hx hb dX6_wordFrom_55 (by decide) (fun c_84 => ?_) (fun c_84 => ?_)
  rotate_left
  · exact absurd (by decide) c_84
  refine lv_bipush (v := 32) hx hb dX6_wordFrom_70 (by decide) ?_
  refine lv_icmp_ne (tgt := 79) hx hb dX6_wordFrom_72 (by decide) (fun c_85 => ?_) (fun c_85 => ?_)
  · exact absurd (by decide) c_85
  refine lv_iconst (v := 1) hx hb dX6_wordFrom_75 (by decide) ?_
  refine lv_goto (tgt := 80) hx hb dX6_wordFrom_76 (by decide) ?_
  refine lv_istore (lv' := [(4, .int 1), (5, .int 6), (3, .int 1), (0, .ref h0), (1, .int 21), (2, .int 26)]) hx hb dX6_wordFrom_80 hl (by decide) rfl (fun ls hl => ?_)
  refine lv_iinc (v := 7) (lv' := [(5, .int 7), (4, .int 1), (3, .int 1), (0, .ref h0), (1, .int 21), (2, .int 26)]) hx hb dX6_wordFrom_82 hl (k := 1) rfl (by decide) (by decide) rfl (fun ls hl => ?_)
  refine lv_goto (tgt := 26) hx hb dX6_wordFrom_85 (by decide) ?_
  refine lv_iload hx hb dX6_wordFrom_26 (lv_at hl 0 rfl) ?_
  refine lv_bipush (v := 8) hx hb dX6_wordFrom_28 (by decide) ?_
  refine lv_icmp_ge (tgt := 88) hx hb dX6_wordFrom_30 (by decide) (fun c_86 => ?_) (fun c_86 => ?_)
  · exact absurd c_86 (by decide)
  refine lv_iload hx hb dX6_wordFrom_33 (lv_at hl 1 rfl) ?_
  refine lv_if_eq (tgt := 88) hx hb dX6_wordFrom_35 (by decide) (fun c_87 => ?_) (fun c_87 => ?_)
  · exact absurd c_87 (by decide)
  refine lv_aload_n hx hb dX6_wordFrom_38 rfl (lv_at hl 3 rfl) ?_
  refine va_get (D := G.1) (ci := 6) (v := .ref wo) (C := RX6) (T := TX6) (N := 42) hx hb hts hiX6 hown hK hP 0 rfl rfl 23 (by decide) kf49 (fun _ h9 => h9) rfl dX6_wordFrom_39 ?_
  refine lv_bipush (v := 8) hx hb dX6_wordFrom_42 (by decide) ?_
  refine lv_iload_n hx hb dX6_wordFrom_44 rfl (lv_at hl 2 rfl) ?_
  refine lv_imul hx hb dX6_wordFrom_45 ?_
  refine lv_topi (fun v_88 ev_88 => ?_)
  have ev_88 : v_88 = 8 := ev_88.trans (by decide)
  subst ev_88
  refine lv_iload hx hb dX6_wordFrom_46 (lv_at hl 0 rfl) ?_
  refine lv_iadd hx hb dX6_wordFrom_48 ?_
  refine lv_topi (fun v_89 ev_89 => ?_)
  have ev_89 : v_89 = 15 := ev_89.trans (by decide)
  subst ev_89
  refine va_iald (D := G.1) hx hb hK hP 2 0 rfl rfl (i := 15) (gIn (by decide)) dX6_wordFrom_49 ?_
  refine lv_topi (fun v_90 ev_90 => ?_)
  have ev_90 : v_90 = 32 := ev_90.trans (by decide)
  subst ev_90
  refine lv_iload_n hx hb dX6_wordFrom_50 rfl (lv_at hl 4 rfl) ?_
  refine lv_iload hx hb dX6_wordFrom_51 (lv_at hl 0 rfl) ?_
  refine lv_iadd hx hb dX6_wordFrom_53 ?_
  refine lv_topi (fun v_91 ev_91 => ?_)
  have ev_91 : v_91 = 28 := ev_91.trans (by decide)
  subst ev_91
  refine lv_iload_n hx hb dX6_wordFrom_54 rfl (lv_at hl 5 rfl) ?_
  refine lv_icmp_ge (tgt := 70) hx hb dX6_wordFrom_55 (by decide) (fun c_92 => ?_) (fun c_92 => ?_)
  rotate_left
  · exact absurd (by decide) c_92
  refine lv_bipush (v := 32) hx hb dX6_wordFrom_70 (by decide) ?_
  refine lv_icmp_ne (tgt := 79) hx hb dX6_wordFrom_72 (by decide) (fun c_93 => ?_) (fun c_93 => ?_)
  · exact absurd (by decide) c_93
  refine lv_iconst (v := 1) hx hb dX6_wordFrom_75 (by decide) ?_
  refine lv_goto (tgt := 80) hx hb dX6_wordFrom_76 (by decide) ?_
  refine lv_istore (lv' := [(4, .int 1), (5, .int 7), (3, .int 1), (0, .ref h0), (1, .int 21), (2, .int 26)]) hx hb dX6_wordFrom_80 hl (by decide) rfl (fun ls hl => ?_)
  refine lv_iinc (v := 8) (lv' := [(5, .int 8), (4, .int 1), (3, .int 1), (0, .ref h0), (1, .int 21), (2, .int 26)]) hx hb dX6_wordFrom_82 hl (k := 1) rfl (by decide) (by decide) rfl (fun ls hl => ?_)
  refine lv_goto (tgt := 26) hx hb dX6_wordFrom_85 (by decide) ?_
  refine lv_iload hx hb dX6_wordFrom_26 (lv_at hl 0 rfl) ?_
  refine lv_bipush (v := 8) hx hb dX6_wordFrom_28 (by decide) ?_
  refine lv_icmp_ge (tgt := 88) hx hb dX6_wordFrom_30 (by decide) (fun c_94 => ?_) (fun c_94 => ?_)
  rotate_left
  · exact absurd (by decide) c_94
  refine lv_iload hx hb dX6_wordFrom_88 (lv_at hl 1 rfl) ?_
  refine lv_if_eq (tgt := 95) hx hb dX6_wordFrom_90 (by decide) (fun c_95 => ?_) (fun c_95 => ?_)
  · exact absurd c_95 (by decide)
  refine lv_iload_n hx hb dX6_wordFrom_93 rfl (lv_at hl 2 rfl) ?_
  have hP9 := hP.sub (ws' := [(h0, .inr (6, [.int 0, .ref kd, .ref mo, .ref st, .int 0, .ref ro, .ref tp, .int 40, .ref cd, .ref sr, .int 0, .int 0, .int 0, .ref ir, .ref ih, .ref ss, .ref sq, .ref ce, .ref lw, .int 26, .int 21, .int 0, .int 0, .ref wo, .ref he, .int 0, .int 0, .int 3, .ref sk, .ref na, .ref kp, .int 0, .int 0, .int 0, .int 0, .ref gb, .ref go, .ref fa, .ref ga, .int 0, .int 0, .ref vo])), (tp, .inl (G.2.1, 160, .inl (gPf tB 40))), (wo, .inl (G.2.1, 96, .inl (gPf tW 96)))]) [0, 1, 2] rfl
  have hD9 := hD.sub (ws' := [(h0, .inr (6, [.int 0, .ref kd, .ref mo, .ref st, .int 0, .ref ro, .ref tp, .int 40, .ref cd, .ref sr, .int 0, .int 0, .int 0, .ref ir, .ref ih, .ref ss, .ref sq, .ref ce, .ref lw, .int 26, .int 21, .int 0, .int 0, .ref wo, .ref he, .int 0, .int 0, .int 3, .ref sk, .ref na, .ref kp, .int 0, .int 0, .int 0, .int 0, .ref gb, .ref go, .ref fa, .ref ga, .int 0, .int 0, .ref vo])), (tp, .inl (G.2.1, 160, .inl (gPf tB 40))), (wo, .inl (G.2.1, 96, .inl (gPf tW 96)))]) [0, 1, 2] (by decide) rfl
  have hpost : (fun (r : Int32) (u : Unit) => match u with | _ => r = 1) 1 () := by first | rfl | trivial
  exact W.iret (v := 1) hx hb hr (fun t ht hW => ⟨⟨1, (), rfl, hpost, by rw [ht]; exact hP9, va_K.moved hW.alike hK, hD9⟩, hS.F ht⟩) hS.2.2 dX6_wordFrom_94
abbrev q_X6_next_z37 (G : gG) (h0 kd mo st ro tp cd sr ir ih ss sq ce lw wo he sk na kp gb go fa ga vo : Nat) (A : Nat → Prop) : Array Value → State → Outcome → State → Prop := va_Qv (fun (u : Unit) => match u with | _ => True) (fun (u : Unit) t => match u with | _ => va_P G.1 vwCl [(h0, .inr (6, [.int 0, .ref kd, .ref mo, .ref st, .int 0, .ref ro, .ref tp, .int 40, .ref cd, .ref sr, .int 0, .int 0, .int 0, .ref ir, .ref ih, .ref ss, .ref sq, .ref ce, .ref lw, .int 26, .int 21, .int 3, .int 1, .ref wo, .ref he, .int 0, .int 0, .int 3, .ref sk, .ref na, .ref kp, .int 0, .int 0, .int 0, .int 0, .ref gb, .ref go, .ref fa, .ref ga, .int 0, .int 0, .ref vo])), (tp, .inl (G.2.1, 160, .inl (gPf tB 40))), (wo, .inl (G.2.1, 96, .inl (gPf tW 96)))] t.heap ∧ gK G t ∧ va_D A [(h0, .inr (6, [.int 0, .ref kd, .ref mo, .ref st, .int 0, .ref ro, .ref tp, .int 40, .ref cd, .ref sr, .int 0, .int 0, .int 0, .ref ir, .ref ih, .ref ss, .ref sq, .ref ce, .ref lw, .int 26, .int 21, .int 3, .int 1, .ref wo, .ref he, .int 0, .int 0, .int 3, .ref sk, .ref na, .ref kp, .int 0, .int 0, .int 0, .int 0, .ref gb, .ref go, .ref fa, .ref ga, .int 0, .int 0, .ref vo])), (tp, .inl (G.2.1, 160, .inl (gPf tB 40))), (wo, .inl (G.2.1, 96, .inl (gPf tW 96)))]) A
set_option maxHeartbeats 4000000 in
set_option maxRecDepth 100000 in
theorem c_X6_next_z37 (l : Launch) (G : gG) (h0 kd mo st ro tp cd sr ir ih ss sq ce lw wo he sk na kp gb go fa ga vo : Nat) (sz : Nat) : Met l yX6_next wsX6_next ({ frames := 1, cells := 0, slots := 0, locals := 25 }) (gPre G [.ref h0] [(h0, .inr (6, [.int 0, .ref kd, .ref mo, .ref st, .int 0, .ref ro, .ref tp, .int 40, .ref cd, .ref sr, .int 0, .int 0, .int 0, .ref ir, .ref ih, .ref ss, .ref sq, .ref ce, .ref lw, .int 20, .int 19, .int 59, .int 0, .ref wo, .ref he, .int 0, .int 0, .int 3, .ref sk, .ref na, .ref kp, .int 0, .int 0, .int 0, .int 0, .ref gb, .ref go, .ref fa, .ref ga, .int 0, .int 0, .ref vo])), (tp, .inl (G.2.1, 160, .inl (gPf tB 40))), (wo, .inl (G.2.1, 96, .inl (gPf tW 96)))] sz) (q_X6_next_z37 G h0 kd mo st ro tp cd sr ir ih ss sq ce lw wo he sk na kp gb go fa ga vo (va_A [(h0, .inr (6, [.int 0, .ref kd, .ref mo, .ref st, .int 0, .ref ro, .ref tp, .int 40, .ref cd, .ref sr, .int 0, .int 0, .int 0, .ref ir, .ref ih, .ref ss, .ref sq, .ref ce, .ref lw, .int 20, .int 19, .int 59, .int 0, .ref wo, .ref he, .int 0, .int 0, .int 3, .ref sk, .ref na, .ref kp, .int 0, .int 0, .int 0, .int 0, .ref gb, .ref go, .ref fa, .ref ga, .int 0, .int 0, .ref vo])), (tp, .inl (G.2.1, 160, .inl (gPf tB 40))), (wo, .inl (G.2.1, 96, .inl (gPf tW 96)))] sz)) 0 0 (va_A [(h0, .inr (6, [.int 0, .ref kd, .ref mo, .ref st, .int 0, .ref ro, .ref tp, .int 40, .ref cd, .ref sr, .int 0, .int 0, .int 0, .ref ir, .ref ih, .ref ss, .ref sq, .ref ce, .ref lw, .int 20, .int 19, .int 59, .int 0, .ref wo, .ref he, .int 0, .int 0, .int 3, .ref sk, .ref na, .ref kp, .int 0, .int 0, .int 0, .int 0, .ref gb, .ref go, .ref fa, .ref ga, .int 0, .int 0, .ref vo])), (tp, .inl (G.2.1, 160, .inl (gPf tB 40))), (wo, .inl (G.2.1, 96, .inl (gPf tW 96)))] sz) := by
  refine Met.ofW (cc := cX6_next) (maxL := 3) (ret := none) (by decide) rfl ?_
  intro p e s m args below meth c s₁ B hml hv
  obtain ⟨rfl, hsz, hP, hK, hD0⟩ := hv
  have hx := B.exec
  have hb := B.bytes
  have hr := B.returns
  have hts := atoms_spec (ws := wsX6_next) B.pre
  have hown : s.vm.findClass RX6 = some m.cls := findClass_of_methodNamed B.named
  have hlocks := B.notSynchronized
  subst hsz
  have hD := hD0.self (sz := s.heap.size)
  generalize hAe : va_A [(h0, .inr (6, [.int 0, .ref kd, .ref mo, .ref st, .int 0, .ref ro, .ref tp, .int 40, .ref cd, .ref sr, .int 0, .int 0, .int 0, .ref ir, .ref ih, .ref ss, .ref sq, .ref ce, .ref lw, .int 20, .int 19, .int 59, .int 0, .ref wo, .ref he, .int 0, .int 0, .int 3, .ref sk, .ref na, .ref kp, .int 0, .int 0, .int 0, .int 0, .ref gb, .ref go, .ref fa, .ref ga, .int 0, .int 0, .ref vo])), (tp, .inl (G.2.1, 160, .inl (gPf tB 40))), (wo, .inl (G.2.1, 96, .inl (gPf tW 96)))] s.heap.size = A at hD ⊢
  have hA : ∀ q : Nat, s.heap.size ≤ q → A q := fun q h => by rw [← hAe]; exact Or.inr h
  have hS : va_S A s.heap s.heap [] := va_S.rf
  have hP : va_P G.1 vwCl [(h0, .inr (6, [.int 0, .ref kd, .ref mo, .ref st, .int 0, .ref ro, .ref tp, .int 40, .ref cd, .ref sr, .int 0, .int 0, .int 0, .ref ir, .ref ih, .ref ss, .ref sq, .ref ce, .ref lw, .int 20, .int 19, .int 59, .int 0, .ref wo, .ref he, .int 0, .int 0, .int 3, .ref sk, .ref na, .ref kp, .int 0, .int 0, .int 0, .int 0, .ref gb, .ref go, .ref fa, .ref ga, .int 0, .int 0, .ref vo])), (tp, .inl (G.2.1, 160, .inl (gPf tB 40))), (wo, .inl (G.2.1, 96, .inl (gPf tW 96)))] s.heap := hP
  have hD : va_D A [(h0, .inr (6, [.int 0, .ref kd, .ref mo, .ref st, .int 0, .ref ro, .ref tp, .int 40, .ref cd, .ref sr, .int 0, .int 0, .int 0, .ref ir, .ref ih, .ref ss, .ref sq, .ref ce, .ref lw, .int 20, .int 19, .int 59, .int 0, .ref wo, .ref he, .int 0, .int 0, .int 3, .ref sk, .ref na, .ref kp, .int 0, .int 0, .int 0, .int 0, .ref gb, .ref go, .ref fa, .ref ga, .int 0, .int 0, .ref vo])), (tp, .inl (G.2.1, 160, .inl (gPf tB 40))), (wo, .inl (G.2.1, 96, .inl (gPf tW 96)))] := hD
  have hl := lv_entry ([.ref h0]) (n := 3) (Nat.le_of_ble_eq_true rfl)
  rw [lg_entry_eq]
  generalize (lg_sl ([.ref h0]) ++ List.replicate (3 - (lg_sl ([.ref h0])).length) Slot.unset).toArray = ls at hl ⊢
  have hl : lv_has ls 3 [(0, .ref h0)] := hl
  have kf111 := hts (.fieldLink RX6 111 "PebbleInShoeModel" "at" "I") (by decide +kernel)
  have hiX6 := (by decide +kernel : ∀ w ∈ wsX60, w ∈ wsX6_next)
  have kf80 := hts (.fieldLink RX6 80 "PebbleInShoeModel" "taped" "I") (by decide +kernel)
  have kf22 := hts (.fieldLink RX6 22 "PebbleInShoeModel" "tape" "[I") (by decide +kernel)
  have kf114 := hts (.fieldLink RX6 114 "PebbleInShoeModel" "begun" "I") (by decide +kernel)
  have kf117 := hts (.fieldLink RX6 117 "PebbleInShoeModel" "token" "I") (by decide +kernel)
  have kf120 := hts (.fieldLink RX6 120 "PebbleInShoeModel" "value" "I") (by decide +kernel)
  refine lv_aload_n hx hb dX6_next_0 rfl (lv_at hl 0 rfl) ?_
  refine va_get (D := G.1) (ci := 6) (v := .int 20) (C := RX6) (T := TX6) (N := 42) hx hb hts hiX6 hown hK hP 0 rfl rfl 19 (by decide) kf111 (fun _ h9 => h9) rfl dX6_next_1 ?_
  refine lv_aload_n hx hb dX6_next_4 rfl (lv_at hl 0 rfl) ?_
  refine va_get (D := G.1) (ci := 6) (v := .int 40) (C := RX6) (T := TX6) (N := 42) hx hb hts hiX6 hown hK hP 0 rfl rfl 7 (by decide) kf80 (fun _ h9 => h9) rfl dX6_next_5 ?_
  refine lv_icmp_ge (tgt := 52) hx hb dX6_next_8 (by decide) (fun c_1 => ?_) (fun c_1 => ?_)
  · exact absurd c_1 (by decide)
  refine lv_aload_n hx hb dX6_next_11 rfl (lv_at hl 0 rfl) ?_
  refine va_get (D := G.1) (ci := 6) (v := .ref tp) (C := RX6) (T := TX6) (N := 42) hx hb hts hiX6 hown hK hP 0 rfl rfl 6 (by decide) kf22 (fun _ h9 => h9) rfl dX6_next_12 ?_
  refine lv_aload_n hx hb dX6_next_15 rfl (lv_at hl 0 rfl) ?_
  refine va_get (D := G.1) (ci := 6) (v := .int 20) (C := RX6) (T := TX6) (N := 42) hx hb hts hiX6 hown hK hP 0 rfl rfl 19 (by decide) kf111 (fun _ h9 => h9) rfl dX6_next_16 ?_
  refine va_iald (D := G.1) hx hb hK hP 1 0 rfl rfl (i := 20) (gIn (by decide)) dX6_next_19 ?_
  refine lv_topi (fun v_2 ev_2 => ?_)
  have ev_2 : v_2 = 32 := ev_2.trans (by decide)
  subst ev_2
  refine lv_bipush (v := 32) hx hb dX6_next_20 (by decide) ?_
  refine lv_icmp_eq (tgt := 39) hx hb dX6_next_22 (by decide) (fun c_3 => ?_) (fun c_3 => ?_)
  rotate_left
  · exact absurd (by decide) c_3
  refine lv_aload_n hx hb dX6_next_39 rfl (lv_at hl 0 rfl) ?_
  refine lv_dup hx hb dX6_next_40 rfl ?_
  refine va_get (D := G.1) (ci := 6) (v := .int 20) (C := RX6) (T := TX6) (N := 42) hx hb hts hiX6 hown hK hP 0 rfl rfl 19 (by decide) kf111 (fun _ h9 => h9) rfl dX6_next_41 ?_
  refine lv_iconst (v := 1) hx hb dX6_next_44 (by decide) ?_
  refine lv_iadd hx hb dX6_next_45 ?_
  refine lv_topi (fun v_4 ev_4 => ?_)
  have ev_4 : v_4 = 21 := ev_4.trans (by decide)
  subst ev_4
  refine va_put (D := G.1) (ci := 6) (v := .int 21) (ty := .int) (C := RX6) (T := TX6) (N := 42) hx hb hts hiX6 tyX6 tyX6_ok nmX6 hown hK hP hD hS 0 rfl rfl 19 (by decide) kf111 (fun _ h9 => h9) rfl (by decide +kernel) rfl rfl (Nat.le_of_ble_eq_true rfl) dX6_next_46 (fun H locs hP hD hS => ?_)
  have hP : va_P G.1 vwCl [(h0, .inr (6, [.int 0, .ref kd, .ref mo, .ref st, .int 0, .ref ro, .ref tp, .int 40, .ref cd, .ref sr, .int 0, .int 0, .int 0, .ref ir, .ref ih, .ref ss, .ref sq, .ref ce, .ref lw, .int 21, .int 19, .int 59, .int 0, .ref wo, .ref he, .int 0, .int 0, .int 3, .ref sk, .ref na, .ref kp, .int 0, .int 0, .int 0, .int 0, .ref gb, .ref go, .ref fa, .ref ga, .int 0, .int 0, .ref vo])), (tp, .inl (G.2.1, 160, .inl (gPf tB 40))), (wo, .inl (G.2.1, 96, .inl (gPf tW 96)))] H := hP
  have hD : va_D A [(h0, .inr (6, [.int 0, .ref kd, .ref mo, .ref st, .int 0, .ref ro, .ref tp, .int 40, .ref cd, .ref sr, .int 0, .int 0, .int 0, .ref ir, .ref ih, .ref ss, .ref sq, .ref ce, .ref lw, .int 21, .int 19, .int 59, .int 0, .ref wo, .ref he, .int 0, .int 0, .int 3, .ref sk, .ref na, .ref kp, .int 0, .int 0, .int 0, .int 0, .ref gb, .ref go, .ref fa, .ref ga, .int 0, .int 0, .ref vo])), (tp, .inl (G.2.1, 160, .inl (gPf tB 40))), (wo, .inl (G.2.1, 96, .inl (gPf tW 96)))] := hD
  refine lv_goto (tgt := 0) hx hb dX6_next_49 (by decide) ?_
  refine lv_aload_n hx hb dX6_next_0 rfl (lv_at hl 0 rfl) ?_
  refine va_get (D := G.1) (ci := 6) (v := .int 21) (C := RX6) (T := TX6) (N := 42) hx hb hts hiX6 hown hK hP 0 rfl rfl 19 (by decide) kf111 (fun _ h9 => h9) rfl dX6_next_1 ?_
  refine lv_aload_n hx hb dX6_next_4 rfl (lv_at hl 0 rfl) ?_
  refine va_get (D := G.1) (ci := 6) (v := .int 40) (C := RX6) (T := TX6) (N := 42) hx hb hts hiX6 hown hK hP 0 rfl rfl 7 (by decide) kf80 (fun _ h9 => h9) rfl dX6_next_5 ?_
  refine lv_icmp_ge (tgt := 52) hx hb dX6_next_8 (by decide) (fun c_5 => ?_) (fun c_5 => ?_)
  · exact absurd c_5 (by decide)
  refine lv_aload_n hx hb dX6_next_11 rfl (lv_at hl 0 rfl) ?_
  refine va_get (D := G.1) (ci := 6) (v := .ref tp) (C := RX6) (T := TX6) (N := 42) hx hb hts hiX6 hown hK hP 0 rfl rfl 6 (by decide) kf22 (fun _ h9 => h9) rfl dX6_next_12 ?_
  refine lv_aload_n hx hb dX6_next_15 rfl (lv_at hl 0 rfl) ?_
  refine va_get (D := G.1) (ci := 6) (v := .int 21) (C := RX6) (T := TX6) (N := 42) hx hb hts hiX6 hown hK hP 0 rfl rfl 19 (by decide) kf111 (fun _ h9 => h9) rfl dX6_next_16 ?_
  refine va_iald (D := G.1) hx hb hK hP 1 0 rfl rfl (i := 21) (gIn (by decide)) dX6_next_19 ?_
  refine lv_topi (fun v_6 ev_6 => ?_)
  have ev_6 : v_6 = 119 := ev_6.trans (by decide)
  subst ev_6
  refine lv_bipush (v := 32) hx hb dX6_next_20 (by decide) ?_
  refine lv_icmp_eq (tgt := 39) hx hb dX6_next_22 (by decide) (fun c_7 => ?_) (fun c_7 => ?_)
  · exact absurd c_7 (by decide)
  refine lv_aload_n hx hb dX6_next_25 rfl (lv_at hl 0 rfl) ?_
  refine va_get (D := G.1) (ci := 6) (v := .ref tp) (C := RX6) (T := TX6) (N := 42) hx hb hts hiX6 hown hK hP 0 rfl rfl 6 (by decide) kf22 (fun _ h9 => h9) rfl dX6_next_26 ?_
  refine lv_aload_n hx hb dX6_next_29 rfl (lv_at hl 0 rfl) ?_
  refine va_get (D := G.1) (ci := 6) (v := .int 21) (C := RX6) (T := TX6) (N := 42) hx hb hts hiX6 hown hK hP 0 rfl rfl 19 (by decide) kf111 (fun _ h9 => h9) rfl dX6_next_30 ?_
  refine va_iald (D := G.1) hx hb hK hP 1 0 rfl rfl (i := 21) (gIn (by decide)) dX6_next_33 ?_
  refine lv_topi (fun v_8 ev_8 => ?_)
  have ev_8 : v_8 = 119 := ev_8.trans (by decide)
  subst ev_8
  refine lv_bipush (v := 10) hx hb dX6_next_34 (by decide) ?_
  refine lv_icmp_ne (tgt := 52) hx hb dX6_next_36 (by decide) (fun c_9 => ?_) (fun c_9 => ?_)
  rotate_left
  · exact absurd c_9 (by decide)
  refine lv_aload_n hx hb dX6_next_52 rfl (lv_at hl 0 rfl) ?_
  refine lv_aload_n hx hb dX6_next_53 rfl (lv_at hl 0 rfl) ?_
  refine va_get (D := G.1) (ci := 6) (v := .int 21) (C := RX6) (T := TX6) (N := 42) hx hb hts hiX6 hown hK hP 0 rfl rfl 19 (by decide) kf111 (fun _ h9 => h9) rfl dX6_next_54 ?_
  refine va_put (D := G.1) (ci := 6) (v := .int 21) (ty := .int) (C := RX6) (T := TX6) (N := 42) hx hb hts hiX6 tyX6 tyX6_ok nmX6 hown hK hP hD hS 0 rfl rfl 20 (by decide) kf114 (fun _ h9 => h9) rfl (by decide +kernel) rfl rfl (Nat.le_of_ble_eq_true rfl) dX6_next_57 (fun H locs hP hD hS => ?_)
  have hP : va_P G.1 vwCl [(h0, .inr (6, [.int 0, .ref kd, .ref mo, .ref st, .int 0, .ref ro, .ref tp, .int 40, .ref cd, .ref sr, .int 0, .int 0, .int 0, .ref ir, .ref ih, .ref ss, .ref sq, .ref ce, .ref lw, .int 21, .int 21, .int 59, .int 0, .ref wo, .ref he, .int 0, .int 0, .int 3, .ref sk, .ref na, .ref kp, .int 0, .int 0, .int 0, .int 0, .ref gb, .ref go, .ref fa, .ref ga, .int 0, .int 0, .ref vo])), (tp, .inl (G.2.1, 160, .inl (gPf tB 40))), (wo, .inl (G.2.1, 96, .inl (gPf tW 96)))] H := hP
  have hD : va_D A [(h0, .inr (6, [.int 0, .ref kd, .ref mo, .ref st, .int 0, .ref ro, .ref tp, .int 40, .ref cd, .ref sr, .int 0, .int 0, .int 0, .ref ir, .ref ih, .ref ss, .ref sq, .ref ce, .ref lw, .int 21, .int 21, .int 59, .int 0, .ref wo, .ref he, .int 0, .int 0, .int 3, .ref sk, .ref na, .ref kp, .int 0, .int 0, .int 0, .int 0, .ref gb, .ref go, .ref fa, .ref ga, .int 0, .int 0, .ref vo])), (tp, .inl (G.2.1, 160, .inl (gPf tB 40))), (wo, .inl (G.2.1, 96, .inl (gPf tW 96)))] := hD
  refine lv_aload_n hx hb dX6_next_60 rfl (lv_at hl 0 rfl) ?_
  refine lv_iconst (v := 0) hx hb dX6_next_61 (by decide) ?_
  refine va_put (D := G.1) (ci := 6) (v := .int 0) (ty := .int) (C := RX6) (T := TX6) (N := 42) hx hb hts hiX6 tyX6 tyX6_ok nmX6 hown hK hP hD hS 0 rfl rfl 21 (by decide) kf117 (fun _ h9 => h9) rfl (by decide +kernel) rfl rfl (Nat.le_of_ble_eq_true rfl) dX6_next_62 (fun H locs hP hD hS => ?_)
  have hP : va_P G.1 vwCl [(h0, .inr (6, [.int 0, .ref kd, .ref mo, .ref st, .int 0, .ref ro, .ref tp, .int 40, .ref cd, .ref sr, .int 0, .int 0, .int 0, .ref ir, .ref ih, .ref ss, .ref sq, .ref ce, .ref lw, .int 21, .int 21, .int 0, .int 0, .ref wo, .ref he, .int 0, .int 0, .int 3, .ref sk, .ref na, .ref kp, .int 0, .int 0, .int 0, .int 0, .ref gb, .ref go, .ref fa, .ref ga, .int 0, .int 0, .ref vo])), (tp, .inl (G.2.1, 160, .inl (gPf tB 40))), (wo, .inl (G.2.1, 96, .inl (gPf tW 96)))] H := hP
  have hD : va_D A [(h0, .inr (6, [.int 0, .ref kd, .ref mo, .ref st, .int 0, .ref ro, .ref tp, .int 40, .ref cd, .ref sr, .int 0, .int 0, .int 0, .ref ir, .ref ih, .ref ss, .ref sq, .ref ce, .ref lw, .int 21, .int 21, .int 0, .int 0, .ref wo, .ref he, .int 0, .int 0, .int 3, .ref sk, .ref na, .ref kp, .int 0, .int 0, .int 0, .int 0, .ref gb, .ref go, .ref fa, .ref ga, .int 0, .int 0, .ref vo])), (tp, .inl (G.2.1, 160, .inl (gPf tB 40))), (wo, .inl (G.2.1, 96, .inl (gPf tW 96)))] := hD
  refine lv_aload_n hx hb dX6_next_65 rfl (lv_at hl 0 rfl) ?_
  refine lv_iconst (v := 0) hx hb dX6_next_66 (by decide) ?_
  refine va_put (D := G.1) (ci := 6) (v := .int 0) (ty := .int) (C := RX6) (T := TX6) (N := 42) hx hb hts hiX6 tyX6 tyX6_ok nmX6 hown hK hP hD hS 0 rfl rfl 22 (by decide) kf120 (fun _ h9 => h9) rfl (by decide +kernel) rfl rfl (Nat.le_of_ble_eq_true rfl) dX6_next_67 (fun H locs hP hD hS => ?_)
  have hP : va_P G.1 vwCl [(h0, .inr (6, [.int 0, .ref kd, .ref mo, .ref st, .int 0, .ref ro, .ref tp, .int 40, .ref cd, .ref sr, .int 0, .int 0, .int 0, .ref ir, .ref ih, .ref ss, .ref sq, .ref ce, .ref lw, .int 21, .int 21, .int 0, .int 0, .ref wo, .ref he, .int 0, .int 0, .int 3, .ref sk, .ref na, .ref kp, .int 0, .int 0, .int 0, .int 0, .ref gb, .ref go, .ref fa, .ref ga, .int 0, .int 0, .ref vo])), (tp, .inl (G.2.1, 160, .inl (gPf tB 40))), (wo, .inl (G.2.1, 96, .inl (gPf tW 96)))] H := hP
  have hD : va_D A [(h0, .inr (6, [.int 0, .ref kd, .ref mo, .ref st, .int 0, .ref ro, .ref tp, .int 40, .ref cd, .ref sr, .int 0, .int 0, .int 0, .ref ir, .ref ih, .ref ss, .ref sq, .ref ce, .ref lw, .int 21, .int 21, .int 0, .int 0, .ref wo, .ref he, .int 0, .int 0, .int 3, .ref sk, .ref na, .ref kp, .int 0, .int 0, .int 0, .int 0, .ref gb, .ref go, .ref fa, .ref ga, .int 0, .int 0, .ref vo])), (tp, .inl (G.2.1, 160, .inl (gPf tB 40))), (wo, .inl (G.2.1, 96, .inl (gPf tW 96)))] := hD
  refine lv_aload_n hx hb dX6_next_70 rfl (lv_at hl 0 rfl) ?_
  refine va_get (D := G.1) (ci := 6) (v := .int 21) (C := RX6) (T := TX6) (N := 42) hx hb hts hiX6 hown hK hP 0 rfl rfl 19 (by decide) kf111 (fun _ h9 => h9) rfl dX6_next_71 ?_
  refine lv_aload_n hx hb dX6_next_74 rfl (lv_at hl 0 rfl) ?_
  refine va_get (D := G.1) (ci := 6) (v := .int 40) (C := RX6) (T := TX6) (N := 42) hx hb hts hiX6 hown hK hP 0 rfl rfl 7 (by decide) kf80 (fun _ h9 => h9) rfl dX6_next_75 ?_
  refine lv_icmp_ne (tgt := 82) hx hb dX6_next_78 (by decide) (fun c_10 => ?_) (fun c_10 => ?_)
  rotate_left
  · exact absurd c_10 (by decide)
  refine lv_aload_n hx hb dX6_next_82 rfl (lv_at hl 0 rfl) ?_
  refine va_get (D := G.1) (ci := 6) (v := .ref tp) (C := RX6) (T := TX6) (N := 42) hx hb hts hiX6 hown hK hP 0 rfl rfl 6 (by decide) kf22 (fun _ h9 => h9) rfl dX6_next_83 ?_
  refine lv_aload_n hx hb dX6_next_86 rfl (lv_at hl 0 rfl) ?_
  refine va_get (D := G.1) (ci := 6) (v := .int 21) (C := RX6) (T := TX6) (N := 42) hx hb hts hiX6 hown hK hP 0 rfl rfl 19 (by decide) kf111 (fun _ h9 => h9) rfl dX6_next_87 ?_
  refine va_iald (D := G.1) hx hb hK hP 1 0 rfl rfl (i := 21) (gIn (by decide)) dX6_next_90 ?_
  refine lv_topi (fun v_11 ev_11 => ?_)
  have ev_11 : v_11 = 119 := ev_11.trans (by decide)
  subst ev_11
  refine lv_istore_n (lv' := [(1, .int 119), (0, .ref h0)]) hx hb dX6_next_91 rfl hl (by decide) rfl (fun ls hl => ?_)
  refine lv_iload_n hx hb dX6_next_92 rfl (lv_at hl 0 rfl) ?_
  refine lv_bipush (v := 97) hx hb dX6_next_93 (by decide) ?_
  refine lv_bipush (v := 122) hx hb dX6_next_95 (by decide) ?_
  have hPc : va_P G.1 vwCl [] H := hP.sub [] rfl
  have hDc : va_D A [] := hD.sub [] (by decide) rfl
  have hFc := va_free (wc := []) hD hS hA [] rfl
  refine va_calli (va_runS (As := [.int 119, .int 97, .int 122]) (rest := []) ⟨hx, hb, hml, hown, hts⟩ (c_X6_in_z38 l G H.size) (va_cwS 3 hts gX6_next_X6_in rfl rfl rfl (by decide +kernel) ⟨Nat.le_of_ble_eq_true rfl, Nat.le_of_ble_eq_true rfl⟩) ⟨gPre_blind, fun U hU hW => gPre_of hU hW hK hPc hDc⟩ rfl rfl hl.1 rfl (lv_room (Nat.le_of_ble_eq_true rfl)) dX6_next_97 ⟨Nat.le_of_ble_eq_true rfl, Nat.le_of_ble_eq_true rfl⟩) hS (fun q _ h => hFc q h) hFc (fun r_12 u t H locs ht hvm w_13 hB hz1 hk1 hS => ?_)
  obtain ⟨hP1, hK1, hD1⟩ := hB
  rw [ht] at hP1
  have hP1 : va_P G.1 vwCl [] H := hP1
  have hD1 : va_D (va_A [] _) [] := hD1
  have w_13 : r_12 = 1 := w_13
  obtain ⟨hP, hD⟩ := va_join (wr := [(h0, .inr (6, [.int 0, .ref kd, .ref mo, .ref st, .int 0, .ref ro, .ref tp, .int 40, .ref cd, .ref sr, .int 0, .int 0, .int 0, .ref ir, .ref ih, .ref ss, .ref sq, .ref ce, .ref lw, .int 21, .int 21, .int 0, .int 0, .ref wo, .ref he, .int 0, .int 0, .int 3, .ref sk, .ref na, .ref kp, .int 0, .int 0, .int 0, .int 0, .ref gb, .ref go, .ref fa, .ref ga, .int 0, .int 0, .ref vo])), (tp, .inl (G.2.1, 160, .inl (gPf tB 40))), (wo, .inl (G.2.1, 96, .inl (gPf tW 96)))]) (w1 := []) hP hD [] [0, 1, 2] rfl rfl (by decide) (by decide) hk1 hFc hP1 hD1
  have hP : va_P G.1 vwCl [(h0, .inr (6, [.int 0, .ref kd, .ref mo, .ref st, .int 0, .ref ro, .ref tp, .int 40, .ref cd, .ref sr, .int 0, .int 0, .int 0, .ref ir, .ref ih, .ref ss, .ref sq, .ref ce, .ref lw, .int 21, .int 21, .int 0, .int 0, .ref wo, .ref he, .int 0, .int 0, .int 3, .ref sk, .ref na, .ref kp, .int 0, .int 0, .int 0, .int 0, .ref gb, .ref go, .ref fa, .ref ga, .int 0, .int 0, .ref vo])), (tp, .inl (G.2.1, 160, .inl (gPf tB 40))), (wo, .inl (G.2.1, 96, .inl (gPf tW 96)))] H := hP
  have hD : va_D A [(h0, .inr (6, [.int 0, .ref kd, .ref mo, .ref st, .int 0, .ref ro, .ref tp, .int 40, .ref cd, .ref sr, .int 0, .int 0, .int 0, .ref ir, .ref ih, .ref ss, .ref sq, .ref ce, .ref lw, .int 21, .int 21, .int 0, .int 0, .ref wo, .ref he, .int 0, .int 0, .int 3, .ref sk, .ref na, .ref kp, .int 0, .int 0, .int 0, .int 0, .ref gb, .ref go, .ref fa, .ref ga, .int 0, .int 0, .ref vo])), (tp, .inl (G.2.1, 160, .inl (gPf tB 40))), (wo, .inl (G.2.1, 96, .inl (gPf tW 96)))] := hD
  have w_13 : r_12 = 1 := w_13
  subst w_13
  refine lv_if_eq (tgt := 217) hx hb dX6_next_100 (by decide) (fun c_14 => ?_) (fun c_14 => ?_)
  · exact absurd c_14 (by decide)
  refine lv_aload_n hx hb dX6_next_103 rfl (lv_at hl 1 rfl) ?_
  refine va_get (D := G.1) (ci := 6) (v := .int 21) (C := RX6) (T := TX6) (N := 42) hx hb hts hiX6 hown hK hP 0 rfl rfl 19 (by decide) kf111 (fun _ h9 => h9) rfl dX6_next_104 ?_
  refine lv_aload_n hx hb dX6_next_107 rfl (lv_at hl 1 rfl) ?_
  refine va_get (D := G.1) (ci := 6) (v := .int 40) (C := RX6) (T := TX6) (N := 42) hx hb hts hiX6 hown hK hP 0 rfl rfl 7 (by decide) kf80 (fun _ h9 => h9) rfl dX6_next_108 ?_
  refine lv_icmp_ge (tgt := 146) hx hb dX6_next_111 (by decide) (fun c_15 => ?_) (fun c_15 => ?_)
  · exact absurd c_15 (by decide)
  refine lv_aload_n hx hb dX6_next_114 rfl (lv_at hl 1 rfl) ?_
  refine va_get (D := G.1) (ci := 6) (v := .ref tp) (C := RX6) (T := TX6) (N := 42) hx hb hts hiX6 hown hK hP 0 rfl rfl 6 (by decide) kf22 (fun _ h9 => h9) rfl dX6_next_115 ?_
  refine lv_aload_n hx hb dX6_next_118 rfl (lv_at hl 1 rfl) ?_
  refine va_get (D := G.1) (ci := 6) (v := .int 21) (C := RX6) (T := TX6) (N := 42) hx hb hts hiX6 hown hK hP 0 rfl rfl 19 (by decide) kf111 (fun _ h9 => h9) rfl dX6_next_119 ?_
  refine va_iald (D := G.1) hx hb hK hP 1 0 rfl rfl (i := 21) (gIn (by decide)) dX6_next_122 ?_
  refine lv_topi (fun v_16 ev_16 => ?_)
  have ev_16 : v_16 = 119 := ev_16.trans (by decide)
  subst ev_16
  refine lv_bipush (v := 97) hx hb dX6_next_123 (by decide) ?_
  refine lv_bipush (v := 122) hx hb dX6_next_125 (by decide) ?_
  have hPc : va_P G.1 vwCl [] H := hP.sub [] rfl
  have hDc : va_D A [] := hD.sub [] (by decide) rfl
  have hFc := va_free (wc := []) hD hS hA [] rfl
  refine va_calli (va_runS (As := [.int 119, .int 97, .int 122]) (rest := []) ⟨hx, hb, hml, hown, hts⟩ (c_X6_in_z38 l G H.size) (va_cwS 3 hts gX6_next_X6_in rfl rfl rfl (by decide +kernel) ⟨Nat.le_of_ble_eq_true rfl, Nat.le_of_ble_eq_true rfl⟩) ⟨gPre_blind, fun U hU hW => gPre_of hU hW hK hPc hDc⟩ rfl rfl hl.1 rfl (lv_room (Nat.le_of_ble_eq_true rfl)) dX6_next_127 ⟨Nat.le_of_ble_eq_true rfl, Nat.le_of_ble_eq_true rfl⟩) hS (fun q _ h => hFc q h) hFc (fun r_17 u t H locs ht hvm w_18 hB hz1 hk1 hS => ?_)
  obtain ⟨hP1, hK1, hD1⟩ := hB
  rw [ht] at hP1
  have hP1 : va_P G.1 vwCl [] H := hP1
  have hD1 : va_D (va_A [] _) [] := hD1
  have w_18 : r_17 = 1 := w_18
  obtain ⟨hP, hD⟩ := va_join (wr := [(h0, .inr (6, [.int 0, .ref kd, .ref mo, .ref st, .int 0, .ref ro, .ref tp, .int 40, .ref cd, .ref sr, .int 0, .int 0, .int 0, .ref ir, .ref ih, .ref ss, .ref sq, .ref ce, .ref lw, .int 21, .int 21, .int 0, .int 0, .ref wo, .ref he, .int 0, .int 0, .int 3, .ref sk, .ref na, .ref kp, .int 0, .int 0, .int 0, .int 0, .ref gb, .ref go, .ref fa, .ref ga, .int 0, .int 0, .ref vo])), (tp, .inl (G.2.1, 160, .inl (gPf tB 40))), (wo, .inl (G.2.1, 96, .inl (gPf tW 96)))]) (w1 := []) hP hD [] [0, 1, 2] rfl rfl (by decide) (by decide) hk1 hFc hP1 hD1
  have hP : va_P G.1 vwCl [(h0, .inr (6, [.int 0, .ref kd, .ref mo, .ref st, .int 0, .ref ro, .ref tp, .int 40, .ref cd, .ref sr, .int 0, .int 0, .int 0, .ref ir, .ref ih, .ref ss, .ref sq, .ref ce, .ref lw, .int 21, .int 21, .int 0, .int 0, .ref wo, .ref he, .int 0, .int 0, .int 3, .ref sk, .ref na, .ref kp, .int 0, .int 0, .int 0, .int 0, .ref gb, .ref go, .ref fa, .ref ga, .int 0, .int 0, .ref vo])), (tp, .inl (G.2.1, 160, .inl (gPf tB 40))), (wo, .inl (G.2.1, 96, .inl (gPf tW 96)))] H := hP
  have hD : va_D A [(h0, .inr (6, [.int 0, .ref kd, .ref mo, .ref st, .int 0, .ref ro, .ref tp, .int 40, .ref cd, .ref sr, .int 0, .int 0, .int 0, .ref ir, .ref ih, .ref ss, .ref sq, .ref ce, .ref lw, .int 21, .int 21, .int 0, .int 0, .ref wo, .ref he, .int 0, .int 0, .int 3, .ref sk, .ref na, .ref kp, .int 0, .int 0, .int 0, .int 0, .ref gb, .ref go, .ref fa, .ref ga, .int 0, .int 0, .ref vo])), (tp, .inl (G.2.1, 160, .inl (gPf tB 40))), (wo, .inl (G.2.1, 96, .inl (gPf tW 96)))] := hD
  have w_18 : r_17 = 1 := w_18
  subst w_18
  refine lv_if_eq (tgt := 146) hx hb dX6_next_130 (by decide) (fun c_19 => ?_) (fun c_19 => ?_)
  · exact absurd c_19 (by decide)
  refine lv_aload_n hx hb dX6_next_133 rfl (lv_at hl 1 rfl) ?_
  refine lv_dup hx hb dX6_next_134 rfl ?_
  refine va_get (D := G.1) (ci := 6) (v := .int 21) (C := RX6) (T := TX6) (N := 42) hx hb hts hiX6 hown hK hP 0 rfl rfl 19 (by decide) kf111 (fun _ h9 => h9) rfl dX6_next_135 ?_
  refine lv_iconst (v := 1) hx hb dX6_next_138 (by decide) ?_
  refine lv_iadd hx hb dX6_next_139 ?_
  refine lv_topi (fun v_20 ev_20 => ?_)
  have ev_20 : v_20 = 22 := ev_20.trans (by decide)
  subst ev_20
  refine va_put (D := G.1) (ci := 6) (v := .int 22) (ty := .int) (C := RX6) (T := TX6) (N := 42) hx hb hts hiX6 tyX6 tyX6_ok nmX6 hown hK hP hD hS 0 rfl rfl 19 (by decide) kf111 (fun _ h9 => h9) rfl (by decide +kernel) rfl rfl (Nat.le_of_ble_eq_true rfl) dX6_next_140 (fun H locs hP hD hS => ?_)
  have hP : va_P G.1 vwCl [(h0, .inr (6, [.int 0, .ref kd, .ref mo, .ref st, .int 0, .ref ro, .ref tp, .int 40, .ref cd, .ref sr, .int 0, .int 0, .int 0, .ref ir, .ref ih, .ref ss, .ref sq, .ref ce, .ref lw, .int 22, .int 21, .int 0, .int 0, .ref wo, .ref he, .int 0, .int 0, .int 3, .ref sk, .ref na, .ref kp, .int 0, .int 0, .int 0, .int 0, .ref gb, .ref go, .ref fa, .ref ga, .int 0, .int 0, .ref vo])), (tp, .inl (G.2.1, 160, .inl (gPf tB 40))), (wo, .inl (G.2.1, 96, .inl (gPf tW 96)))] H := hP
  have hD : va_D A [(h0, .inr (6, [.int 0, .ref kd, .ref mo, .ref st, .int 0, .ref ro, .ref tp, .int 40, .ref cd, .ref sr, .int 0, .int 0, .int 0, .ref ir, .ref ih, .ref ss, .ref sq, .ref ce, .ref lw, .int 22, .int 21, .int 0, .int 0, .ref wo, .ref he, .int 0, .int 0, .int 3, .ref sk, .ref na, .ref kp, .int 0, .int 0, .int 0, .int 0, .ref gb, .ref go, .ref fa, .ref ga, .int 0, .int 0, .ref vo])), (tp, .inl (G.2.1, 160, .inl (gPf tB 40))), (wo, .inl (G.2.1, 96, .inl (gPf tW 96)))] := hD
  refine lv_goto (tgt := 103) hx hb dX6_next_143 (by decide) ?_
  refine lv_aload_n hx hb dX6_next_103 rfl (lv_at hl 1 rfl) ?_
  refine va_get (D := G.1) (ci := 6) (v := .int 22) (C := RX6) (T := TX6) (N := 42) hx hb hts hiX6 hown hK hP 0 rfl rfl 19 (by decide) kf111 (fun _ h9 => h9) rfl dX6_next_104 ?_
  refine lv_aload_n hx hb dX6_next_107 rfl (lv_at hl 1 rfl) ?_
  refine va_get (D := G.1) (ci := 6) (v := .int 40) (C := RX6) (T := TX6) (N := 42) hx hb hts hiX6 hown hK hP 0 rfl rfl 7 (by decide) kf80 (fun _ h9 => h9) rfl dX6_next_108 ?_
  refine lv_icmp_ge (tgt := 146) hx hb dX6_next_111 (by decide) (fun c_21 => ?_) (fun c_21 => ?_)
  · exact absurd c_21 (by decide)
  refine lv_aload_n hx hb dX6_next_114 rfl (lv_at hl 1 rfl) ?_
  refine va_get (D := G.1) (ci := 6) (v := .ref tp) (C := RX6) (T := TX6) (N := 42) hx hb hts hiX6 hown hK hP 0 rfl rfl 6 (by decide) kf22 (fun _ h9 => h9) rfl dX6_next_115 ?_
  refine lv_aload_n hx hb dX6_next_118 rfl (lv_at hl 1 rfl) ?_
  refine va_get (D := G.1) (ci := 6) (v := .int 22) (C := RX6) (T := TX6) (N := 42) hx hb hts hiX6 hown hK hP 0 rfl rfl 19 (by decide) kf111 (fun _ h9 => h9) rfl dX6_next_119 ?_
  refine va_iald (D := G.1) hx hb hK hP 1 0 rfl rfl (i := 22) (gIn (by decide)) dX6_next_122 ?_
  refine lv_topi (fun v_22 ev_22 => ?_)
  have ev_22 : v_22 = 101 := ev_22.trans (by decide)
  subst ev_22
  refine lv_bipush (v := 97) hx hb dX6_next_123 (by decide) ?_
  refine lv_bipush (v := 122) hx hb dX6_next_125 (by decide) ?_
  have hPc : va_P G.1 vwCl [] H := hP.sub [] rfl
  have hDc : va_D A [] := hD.sub [] (by decide) rfl
  have hFc := va_free (wc := []) hD hS hA [] rfl
  refine va_calli (va_runS (As := [.int 101, .int 97, .int 122]) (rest := []) ⟨hx, hb, hml, hown, hts⟩ (c_X6_in_z3 l G H.size) (va_cwS 3 hts gX6_next_X6_in rfl rfl rfl (by decide +kernel) ⟨Nat.le_of_ble_eq_true rfl, Nat.le_of_ble_eq_true rfl⟩) ⟨gPre_blind, fun U hU hW => gPre_of hU hW hK hPc hDc⟩ rfl rfl hl.1 rfl (lv_room (Nat.le_of_ble_eq_true rfl)) dX6_next_127 ⟨Nat.le_of_ble_eq_true rfl, Nat.le_of_ble_eq_true rfl⟩) hS (fun q _ h => hFc q h) hFc (fun r_23 u t H locs ht hvm w_24 hB hz1 hk1 hS => ?_)
  obtain ⟨hP1, hK1, hD1⟩ := hB
  rw [ht] at hP1
  have hP1 : va_P G.1 vwCl [] H := hP1
  have hD1 : va_D (va_A [] _) [] := hD1
  have w_24 : r_23 = 1 := w_24
  obtain ⟨hP, hD⟩ := va_join (wr := [(h0, .inr (6, [.int 0, .ref kd, .ref mo, .ref st, .int 0, .ref ro, .ref tp, .int 40, .ref cd, .ref sr, .int 0, .int 0, .int 0, .ref ir, .ref ih, .ref ss, .ref sq, .ref ce, .ref lw, .int 22, .int 21, .int 0, .int 0, .ref wo, .ref he, .int 0, .int 0, .int 3, .ref sk, .ref na, .ref kp, .int 0, .int 0, .int 0, .int 0, .ref gb, .ref go, .ref fa, .ref ga, .int 0, .int 0, .ref vo])), (tp, .inl (G.2.1, 160, .inl (gPf tB 40))), (wo, .inl (G.2.1, 96, .inl (gPf tW 96)))]) (w1 := []) hP hD [] [0, 1, 2] rfl rfl (by decide) (by decide) hk1 hFc hP1 hD1
  have hP : va_P G.1 vwCl [(h0, .inr (6, [.int 0, .ref kd, .ref mo, .ref st, .int 0, .ref ro, .ref tp, .int 40, .ref cd, .ref sr, .int 0, .int 0, .int 0, .ref ir, .ref ih, .ref ss, .ref sq, .ref ce, .ref lw, .int 22, .int 21, .int 0, .int 0, .ref wo, .ref he, .int 0, .int 0, .int 3, .ref sk, .ref na, .ref kp, .int 0, .int 0, .int 0, .int 0, .ref gb, .ref go, .ref fa, .ref ga, .int 0, .int 0, .ref vo])), (tp, .inl (G.2.1, 160, .inl (gPf tB 40))), (wo, .inl (G.2.1, 96, .inl (gPf tW 96)))] H := hP
  have hD : va_D A [(h0, .inr (6, [.int 0, .ref kd, .ref mo, .ref st, .int 0, .ref ro, .ref tp, .int 40, .ref cd, .ref sr, .int 0, .int 0, .int 0, .ref ir, .ref ih, .ref ss, .ref sq, .ref ce, .ref lw, .int 22, .int 21, .int 0, .int 0, .ref wo, .ref he, .int 0, .int 0, .int 3, .ref sk, .ref na, .ref kp, .int 0, .int 0, .int 0, .int 0, .ref gb, .ref go, .ref fa, .ref ga, .int 0, .int 0, .ref vo])), (tp, .inl (G.2.1, 160, .inl (gPf tB 40))), (wo, .inl (G.2.1, 96, .inl (gPf tW 96)))] := hD
  have w_24 : r_23 = 1 := w_24
  subst w_24
  refine lv_if_eq (tgt := 146) hx hb dX6_next_130 (by decide) (fun c_25 => ?_) (fun c_25 => ?_)
  · exact absurd c_25 (by decide)
  refine lv_aload_n hx hb dX6_next_133 rfl (lv_at hl 1 rfl) ?_
  refine lv_dup hx hb dX6_next_134 rfl ?_
  refine va_get (D := G.1) (ci := 6) (v := .int 22) (C := RX6) (T := TX6) (N := 42) hx hb hts hiX6 hown hK hP 0 rfl rfl 19 (by decide) kf111 (fun _ h9 => h9) rfl dX6_next_135 ?_
  refine lv_iconst (v := 1) hx hb dX6_next_138 (by decide) ?_
  refine lv_iadd hx hb dX6_next_139 ?_
  refine lv_topi (fun v_26 ev_26 => ?_)
  have ev_26 : v_26 = 23 := ev_26.trans (by decide)
  subst ev_26
  refine va_put (D := G.1) (ci := 6) (v := .int 23) (ty := .int) (C := RX6) (T := TX6) (N := 42) hx hb hts hiX6 tyX6 tyX6_ok nmX6 hown hK hP hD hS 0 rfl rfl 19 (by decide) kf111 (fun _ h9 => h9) rfl (by decide +kernel) rfl rfl (Nat.le_of_ble_eq_true rfl) dX6_next_140 (fun H locs hP hD hS => ?_)
  have hP : va_P G.1 vwCl [(h0, .inr (6, [.int 0, .ref kd, .ref mo, .ref st, .int 0, .ref ro, .ref tp, .int 40, .ref cd, .ref sr, .int 0, .int 0, .int 0, .ref ir, .ref ih, .ref ss, .ref sq, .ref ce, .ref lw, .int 23, .int 21, .int 0, .int 0, .ref wo, .ref he, .int 0, .int 0, .int 3, .ref sk, .ref na, .ref kp, .int 0, .int 0, .int 0, .int 0, .ref gb, .ref go, .ref fa, .ref ga, .int 0, .int 0, .ref vo])), (tp, .inl (G.2.1, 160, .inl (gPf tB 40))), (wo, .inl (G.2.1, 96, .inl (gPf tW 96)))] H := hP
  have hD : va_D A [(h0, .inr (6, [.int 0, .ref kd, .ref mo, .ref st, .int 0, .ref ro, .ref tp, .int 40, .ref cd, .ref sr, .int 0, .int 0, .int 0, .ref ir, .ref ih, .ref ss, .ref sq, .ref ce, .ref lw, .int 23, .int 21, .int 0, .int 0, .ref wo, .ref he, .int 0, .int 0, .int 3, .ref sk, .ref na, .ref kp, .int 0, .int 0, .int 0, .int 0, .ref gb, .ref go, .ref fa, .ref ga, .int 0, .int 0, .ref vo])), (tp, .inl (G.2.1, 160, .inl (gPf tB 40))), (wo, .inl (G.2.1, 96, .inl (gPf tW 96)))] := hD
  refine lv_goto (tgt := 103) hx hb dX6_next_143 (by decide) ?_
  refine lv_aload_n hx hb dX6_next_103 rfl (lv_at hl 1 rfl) ?_
  refine va_get (D := G.1) (ci := 6) (v := .int 23) (C := RX6) (T := TX6) (N := 42) hx hb hts hiX6 hown hK hP 0 rfl rfl 19 (by decide) kf111 (fun _ h9 => h9) rfl dX6_next_104 ?_
  refine lv_aload_n hx hb dX6_next_107 rfl (lv_at hl 1 rfl) ?_
  refine va_get (D := G.1) (ci := 6) (v := .int 40) (C := RX6) (T := TX6) (N := 42) hx hb hts hiX6 hown hK hP 0 rfl rfl 7 (by decide) kf80 (fun _ h9 => h9) rfl dX6_next_108 ?_
  refine lv_icmp_ge (tgt := 146) hx hb dX6_next_111 (by decide) (fun c_27 => ?_) (fun c_27 => ?_)
  · exact absurd c_27 (by decide)
  refine lv_aload_n hx hb dX6_next_114 rfl (lv_at hl 1 rfl) ?_
  refine va_get (D := G.1) (ci := 6) (v := .ref tp) (C := RX6) (T := TX6) (N := 42) hx hb hts hiX6 hown hK hP 0 rfl rfl 6 (by decide) kf22 (fun _ h9 => h9) rfl dX6_next_115 ?_
  refine lv_aload_n hx hb dX6_next_118 rfl (lv_at hl 1 rfl) ?_
  refine va_get (D := G.1) (ci := 6) (v := .int 23) (C := RX6) (T := TX6) (N := 42) hx hb hts hiX6 hown hK hP 0 rfl rfl 19 (by decide) kf111 (fun _ h9 => h9) rfl dX6_next_119 ?_
  refine va_iald (D := G.1) hx hb hK hP 1 0 rfl rfl (i := 23) (gIn (by decide)) dX6_next_122 ?_
  refine lv_topi (fun v_28 ev_28 => ?_)
  have ev_28 : v_28 = 97 := ev_28.trans (by decide)
  subst ev_28
  refine lv_bipush (v := 97) hx hb dX6_next_123 (by decide) ?_
  refine lv_bipush (v := 122) hx hb dX6_next_125 (by decide) ?_
  have hPc : va_P G.1 vwCl [] H := hP.sub [] rfl
  have hDc : va_D A [] := hD.sub [] (by decide) rfl
  have hFc := va_free (wc := []) hD hS hA [] rfl
  refine va_calli (va_runS (As := [.int 97, .int 97, .int 122]) (rest := []) ⟨hx, hb, hml, hown, hts⟩ (c_X6_in_z39 l G H.size) (va_cwS 3 hts gX6_next_X6_in rfl rfl rfl (by decide +kernel) ⟨Nat.le_of_ble_eq_true rfl, Nat.le_of_ble_eq_true rfl⟩) ⟨gPre_blind, fun U hU hW => gPre_of hU hW hK hPc hDc⟩ rfl rfl hl.1 rfl (lv_room (Nat.le_of_ble_eq_true rfl)) dX6_next_127 ⟨Nat.le_of_ble_eq_true rfl, Nat.le_of_ble_eq_true rfl⟩) hS (fun q _ h => hFc q h) hFc (fun r_29 u t H locs ht hvm w_30 hB hz1 hk1 hS => ?_)
  obtain ⟨hP1, hK1, hD1⟩ := hB
  rw [ht] at hP1
  have hP1 : va_P G.1 vwCl [] H := hP1
  have hD1 : va_D (va_A [] _) [] := hD1
  have w_30 : r_29 = 1 := w_30
  obtain ⟨hP, hD⟩ := va_join (wr := [(h0, .inr (6, [.int 0, .ref kd, .ref mo, .ref st, .int 0, .ref ro, .ref tp, .int 40, .ref cd, .ref sr, .int 0, .int 0, .int 0, .ref ir, .ref ih, .ref ss, .ref sq, .ref ce, .ref lw, .int 23, .int 21, .int 0, .int 0, .ref wo, .ref he, .int 0, .int 0, .int 3, .ref sk, .ref na, .ref kp, .int 0, .int 0, .int 0, .int 0, .ref gb, .ref go, .ref fa, .ref ga, .int 0, .int 0, .ref vo])), (tp, .inl (G.2.1, 160, .inl (gPf tB 40))), (wo, .inl (G.2.1, 96, .inl (gPf tW 96)))]) (w1 := []) hP hD [] [0, 1, 2] rfl rfl (by decide) (by decide) hk1 hFc hP1 hD1
  have hP : va_P G.1 vwCl [(h0, .inr (6, [.int 0, .ref kd, .ref mo, .ref st, .int 0, .ref ro, .ref tp, .int 40, .ref cd, .ref sr, .int 0, .int 0, .int 0, .ref ir, .ref ih, .ref ss, .ref sq, .ref ce, .ref lw, .int 23, .int 21, .int 0, .int 0, .ref wo, .ref he, .int 0, .int 0, .int 3, .ref sk, .ref na, .ref kp, .int 0, .int 0, .int 0, .int 0, .ref gb, .ref go, .ref fa, .ref ga, .int 0, .int 0, .ref vo])), (tp, .inl (G.2.1, 160, .inl (gPf tB 40))), (wo, .inl (G.2.1, 96, .inl (gPf tW 96)))] H := hP
  have hD : va_D A [(h0, .inr (6, [.int 0, .ref kd, .ref mo, .ref st, .int 0, .ref ro, .ref tp, .int 40, .ref cd, .ref sr, .int 0, .int 0, .int 0, .ref ir, .ref ih, .ref ss, .ref sq, .ref ce, .ref lw, .int 23, .int 21, .int 0, .int 0, .ref wo, .ref he, .int 0, .int 0, .int 3, .ref sk, .ref na, .ref kp, .int 0, .int 0, .int 0, .int 0, .ref gb, .ref go, .ref fa, .ref ga, .int 0, .int 0, .ref vo])), (tp, .inl (G.2.1, 160, .inl (gPf tB 40))), (wo, .inl (G.2.1, 96, .inl (gPf tW 96)))] := hD
  have w_30 : r_29 = 1 := w_30
  subst w_30
  refine lv_if_eq (tgt := 146) hx hb dX6_next_130 (by decide) (fun c_31 => ?_) (fun c_31 => ?_)
  · exact absurd c_31 (by decide)
  refine lv_aload_n hx hb dX6_next_133 rfl (lv_at hl 1 rfl) ?_
  refine lv_dup hx hb dX6_next_134 rfl ?_
  refine va_get (D := G.1) (ci := 6) (v := .int 23) (C := RX6) (T := TX6) (N := 42) hx hb hts hiX6 hown hK hP 0 rfl rfl 19 (by decide) kf111 (fun _ h9 => h9) rfl dX6_next_135 ?_
  refine lv_iconst (v := 1) hx hb dX6_next_138 (by decide) ?_
  refine lv_iadd hx hb dX6_next_139 ?_
  refine lv_topi (fun v_32 ev_32 => ?_)
  have ev_32 : v_32 = 24 := ev_32.trans (by decide)
  subst ev_32
  refine va_put (D := G.1) (ci := 6) (v := .int 24) (ty := .int) (C := RX6) (T := TX6) (N := 42) hx hb hts hiX6 tyX6 tyX6_ok nmX6 hown hK hP hD hS 0 rfl rfl 19 (by decide) kf111 (fun _ h9 => h9) rfl (by decide +kernel) rfl rfl (Nat.le_of_ble_eq_true rfl) dX6_next_140 (fun H locs hP hD hS => ?_)
  have hP : va_P G.1 vwCl [(h0, .inr (6, [.int 0, .ref kd, .ref mo, .ref st, .int 0, .ref ro, .ref tp, .int 40, .ref cd, .ref sr, .int 0, .int 0, .int 0, .ref ir, .ref ih, .ref ss, .ref sq, .ref ce, .ref lw, .int 24, .int 21, .int 0, .int 0, .ref wo, .ref he, .int 0, .int 0, .int 3, .ref sk, .ref na, .ref kp, .int 0, .int 0, .int 0, .int 0, .ref gb, .ref go, .ref fa, .ref ga, .int 0, .int 0, .ref vo])), (tp, .inl (G.2.1, 160, .inl (gPf tB 40))), (wo, .inl (G.2.1, 96, .inl (gPf tW 96)))] H := hP
  have hD : va_D A [(h0, .inr (6, [.int 0, .ref kd, .ref mo, .ref st, .int 0, .ref ro, .ref tp, .int 40, .ref cd, .ref sr, .int 0, .int 0, .int 0, .ref ir, .ref ih, .ref ss, .ref sq, .ref ce, .ref lw, .int 24, .int 21, .int 0, .int 0, .ref wo, .ref he, .int 0, .int 0, .int 3, .ref sk, .ref na, .ref kp, .int 0, .int 0, .int 0, .int 0, .ref gb, .ref go, .ref fa, .ref ga, .int 0, .int 0, .ref vo])), (tp, .inl (G.2.1, 160, .inl (gPf tB 40))), (wo, .inl (G.2.1, 96, .inl (gPf tW 96)))] := hD
  refine lv_goto (tgt := 103) hx hb dX6_next_143 (by decide) ?_
  refine lv_aload_n hx hb dX6_next_103 rfl (lv_at hl 1 rfl) ?_
  refine va_get (D := G.1) (ci := 6) (v := .int 24) (C := RX6) (T := TX6) (N := 42) hx hb hts hiX6 hown hK hP 0 rfl rfl 19 (by decide) kf111 (fun _ h9 => h9) rfl dX6_next_104 ?_
  refine lv_aload_n hx hb dX6_next_107 rfl (lv_at hl 1 rfl) ?_
  refine va_get (D := G.1) (ci := 6) (v := .int 40) (C := RX6) (T := TX6) (N := 42) hx hb hts hiX6 hown hK hP 0 rfl rfl 7 (by decide) kf80 (fun _ h9 => h9) rfl dX6_next_108 ?_
  refine lv_icmp_ge (tgt := 146) hx hb dX6_next_111 (by decide) (fun c_33 => ?_) (fun c_33 => ?_)
  · exact absurd c_33 (by decide)
  refine lv_aload_n hx hb dX6_next_114 rfl (lv_at hl 1 rfl) ?_
  refine va_get (D := G.1) (ci := 6) (v := .ref tp) (C := RX6) (T := TX6) (N := 42) hx hb hts hiX6 hown hK hP 0 rfl rfl 6 (by decide) kf22 (fun _ h9 => h9) rfl dX6_next_115 ?_
  refine lv_aload_n hx hb dX6_next_118 rfl (lv_at hl 1 rfl) ?_
  refine va_get (D := G.1) (ci := 6) (v := .int 24) (C := RX6) (T := TX6) (N := 42) hx hb hts hiX6 hown hK hP 0 rfl rfl 19 (by decide) kf111 (fun _ h9 => h9) rfl dX6_next_119 ?_
  refine va_iald (D := G.1) hx hb hK hP 1 0 rfl rfl (i := 24) (gIn (by decide)) dX6_next_122 ?_
  refine lv_topi (fun v_34 ev_34 => ?_)
  have ev_34 : v_34 = 114 := ev_34.trans (by decide)
  subst ev_34
  refine lv_bipush (v := 97) hx hb dX6_next_123 (by decide) ?_
  refine lv_bipush (v := 122) hx hb dX6_next_125 (by decide) ?_
  have hPc : va_P G.1 vwCl [] H := hP.sub [] rfl
  have hDc : va_D A [] := hD.sub [] (by decide) rfl
  have hFc := va_free (wc := []) hD hS hA [] rfl
  refine va_calli (va_runS (As := [.int 114, .int 97, .int 122]) (rest := []) ⟨hx, hb, hml, hown, hts⟩ (c_X6_in_z24 l G H.size) (va_cwS 3 hts gX6_next_X6_in rfl rfl rfl (by decide +kernel) ⟨Nat.le_of_ble_eq_true rfl, Nat.le_of_ble_eq_true rfl⟩) ⟨gPre_blind, fun U hU hW => gPre_of hU hW hK hPc hDc⟩ rfl rfl hl.1 rfl (lv_room (Nat.le_of_ble_eq_true rfl)) dX6_next_127 ⟨Nat.le_of_ble_eq_true rfl, Nat.le_of_ble_eq_true rfl⟩) hS (fun q _ h => hFc q h) hFc (fun r_35 u t H locs ht hvm w_36 hB hz1 hk1 hS => ?_)
  obtain ⟨hP1, hK1, hD1⟩ := hB
  rw [ht] at hP1
  have hP1 : va_P G.1 vwCl [] H := hP1
  have hD1 : va_D (va_A [] _) [] := hD1
  have w_36 : r_35 = 1 := w_36
  obtain ⟨hP, hD⟩ := va_join (wr := [(h0, .inr (6, [.int 0, .ref kd, .ref mo, .ref st, .int 0, .ref ro, .ref tp, .int 40, .ref cd, .ref sr, .int 0, .int 0, .int 0, .ref ir, .ref ih, .ref ss, .ref sq, .ref ce, .ref lw, .int 24, .int 21, .int 0, .int 0, .ref wo, .ref he, .int 0, .int 0, .int 3, .ref sk, .ref na, .ref kp, .int 0, .int 0, .int 0, .int 0, .ref gb, .ref go, .ref fa, .ref ga, .int 0, .int 0, .ref vo])), (tp, .inl (G.2.1, 160, .inl (gPf tB 40))), (wo, .inl (G.2.1, 96, .inl (gPf tW 96)))]) (w1 := []) hP hD [] [0, 1, 2] rfl rfl (by decide) (by decide) hk1 hFc hP1 hD1
  have hP : va_P G.1 vwCl [(h0, .inr (6, [.int 0, .ref kd, .ref mo, .ref st, .int 0, .ref ro, .ref tp, .int 40, .ref cd, .ref sr, .int 0, .int 0, .int 0, .ref ir, .ref ih, .ref ss, .ref sq, .ref ce, .ref lw, .int 24, .int 21, .int 0, .int 0, .ref wo, .ref he, .int 0, .int 0, .int 3, .ref sk, .ref na, .ref kp, .int 0, .int 0, .int 0, .int 0, .ref gb, .ref go, .ref fa, .ref ga, .int 0, .int 0, .ref vo])), (tp, .inl (G.2.1, 160, .inl (gPf tB 40))), (wo, .inl (G.2.1, 96, .inl (gPf tW 96)))] H := hP
  have hD : va_D A [(h0, .inr (6, [.int 0, .ref kd, .ref mo, .ref st, .int 0, .ref ro, .ref tp, .int 40, .ref cd, .ref sr, .int 0, .int 0, .int 0, .ref ir, .ref ih, .ref ss, .ref sq, .ref ce, .ref lw, .int 24, .int 21, .int 0, .int 0, .ref wo, .ref he, .int 0, .int 0, .int 3, .ref sk, .ref na, .ref kp, .int 0, .int 0, .int 0, .int 0, .ref gb, .ref go, .ref fa, .ref ga, .int 0, .int 0, .ref vo])), (tp, .inl (G.2.1, 160, .inl (gPf tB 40))), (wo, .inl (G.2.1, 96, .inl (gPf tW 96)))] := hD
  have w_36 : r_35 = 1 := w_36
  subst w_36
  refine lv_if_eq (tgt := 146) hx hb dX6_next_130 (by decide) (fun c_37 => ?_) (fun c_37 => ?_)
  · exact absurd c_37 (by decide)
  refine lv_aload_n hx hb dX6_next_133 rfl (lv_at hl 1 rfl) ?_
  refine lv_dup hx hb dX6_next_134 rfl ?_
  refine va_get (D := G.1) (ci := 6) (v := .int 24) (C := RX6) (T := TX6) (N := 42) hx hb hts hiX6 hown hK hP 0 rfl rfl 19 (by decide) kf111 (fun _ h9 => h9) rfl dX6_next_135 ?_
  refine lv_iconst (v := 1) hx hb dX6_next_138 (by decide) ?_
  refine lv_iadd hx hb dX6_next_139 ?_
  refine lv_topi (fun v_38 ev_38 => ?_)
  have ev_38 : v_38 = 25 := ev_38.trans (by decide)
  subst ev_38
  refine va_put (D := G.1) (ci := 6) (v := .int 25) (ty := .int) (C := RX6) (T := TX6) (N := 42) hx hb hts hiX6 tyX6 tyX6_ok nmX6 hown hK hP hD hS 0 rfl rfl 19 (by decide) kf111 (fun _ h9 => h9) rfl (by decide +kernel) rfl rfl (Nat.le_of_ble_eq_true rfl) dX6_next_140 (fun H locs hP hD hS => ?_)
  have hP : va_P G.1 vwCl [(h0, .inr (6, [.int 0, .ref kd, .ref mo, .ref st, .int 0, .ref ro, .ref tp, .int 40, .ref cd, .ref sr, .int 0, .int 0, .int 0, .ref ir, .ref ih, .ref ss, .ref sq, .ref ce, .ref lw, .int 25, .int 21, .int 0, .int 0, .ref wo, .ref he, .int 0, .int 0, .int 3, .ref sk, .ref na, .ref kp, .int 0, .int 0, .int 0, .int 0, .ref gb, .ref go, .ref fa, .ref ga, .int 0, .int 0, .ref vo])), (tp, .inl (G.2.1, 160, .inl (gPf tB 40))), (wo, .inl (G.2.1, 96, .inl (gPf tW 96)))] H := hP
  have hD : va_D A [(h0, .inr (6, [.int 0, .ref kd, .ref mo, .ref st, .int 0, .ref ro, .ref tp, .int 40, .ref cd, .ref sr, .int 0, .int 0, .int 0, .ref ir, .ref ih, .ref ss, .ref sq, .ref ce, .ref lw, .int 25, .int 21, .int 0, .int 0, .ref wo, .ref he, .int 0, .int 0, .int 3, .ref sk, .ref na, .ref kp, .int 0, .int 0, .int 0, .int 0, .ref gb, .ref go, .ref fa, .ref ga, .int 0, .int 0, .ref vo])), (tp, .inl (G.2.1, 160, .inl (gPf tB 40))), (wo, .inl (G.2.1, 96, .inl (gPf tW 96)))] := hD
  refine lv_goto (tgt := 103) hx hb dX6_next_143 (by decide) ?_
  refine lv_aload_n hx hb dX6_next_103 rfl (lv_at hl 1 rfl) ?_
  refine va_get (D := G.1) (ci := 6) (v := .int 25) (C := RX6) (T := TX6) (N := 42) hx hb hts hiX6 hown hK hP 0 rfl rfl 19 (by decide) kf111 (fun _ h9 => h9) rfl dX6_next_104 ?_
  refine lv_aload_n hx hb dX6_next_107 rfl (lv_at hl 1 rfl) ?_
  refine va_get (D := G.1) (ci := 6) (v := .int 40) (C := RX6) (T := TX6) (N := 42) hx hb hts hiX6 hown hK hP 0 rfl rfl 7 (by decide) kf80 (fun _ h9 => h9) rfl dX6_next_108 ?_
  refine lv_icmp_ge (tgt := 146) hx hb dX6_next_111 (by decide) (fun c_39 => ?_) (fun c_39 => ?_)
  · exact absurd c_39 (by decide)
  refine lv_aload_n hx hb dX6_next_114 rfl (lv_at hl 1 rfl) ?_
  refine va_get (D := G.1) (ci := 6) (v := .ref tp) (C := RX6) (T := TX6) (N := 42) hx hb hts hiX6 hown hK hP 0 rfl rfl 6 (by decide) kf22 (fun _ h9 => h9) rfl dX6_next_115 ?_
  refine lv_aload_n hx hb dX6_next_118 rfl (lv_at hl 1 rfl) ?_
  refine va_get (D := G.1) (ci := 6) (v := .int 25) (C := RX6) (T := TX6) (N := 42) hx hb hts hiX6 hown hK hP 0 rfl rfl 19 (by decide) kf111 (fun _ h9 => h9) rfl dX6_next_119 ?_
  refine va_iald (D := G.1) hx hb hK hP 1 0 rfl rfl (i := 25) (gIn (by decide)) dX6_next_122 ?_
  refine lv_topi (fun v_40 ev_40 => ?_)
  have ev_40 : v_40 = 115 := ev_40.trans (by decide)
  subst ev_40
  refine lv_bipush (v := 97) hx hb dX6_next_123 (by decide) ?_
  refine lv_bipush (v := 122) hx hb dX6_next_125 (by decide) ?_
  have hPc : va_P G.1 vwCl [] H := hP.sub [] rfl
  have hDc : va_D A [] := hD.sub [] (by decide) rfl
  have hFc := va_free (wc := []) hD hS hA [] rfl
  refine va_calli (va_runS (As := [.int 115, .int 97, .int 122]) (rest := []) ⟨hx, hb, hml, hown, hts⟩ (c_X6_in_z5 l G H.size) (va_cwS 3 hts gX6_next_X6_in rfl rfl rfl (by decide +kernel) ⟨Nat.le_of_ble_eq_true rfl, Nat.le_of_ble_eq_true rfl⟩) ⟨gPre_blind, fun U hU hW => gPre_of hU hW hK hPc hDc⟩ rfl rfl hl.1 rfl (lv_room (Nat.le_of_ble_eq_true rfl)) dX6_next_127 ⟨Nat.le_of_ble_eq_true rfl, Nat.le_of_ble_eq_true rfl⟩) hS (fun q _ h => hFc q h) hFc (fun r_41 u t H locs ht hvm w_42 hB hz1 hk1 hS => ?_)
  obtain ⟨hP1, hK1, hD1⟩ := hB
  rw [ht] at hP1
  have hP1 : va_P G.1 vwCl [] H := hP1
  have hD1 : va_D (va_A [] _) [] := hD1
  have w_42 : r_41 = 1 := w_42
  obtain ⟨hP, hD⟩ := va_join (wr := [(h0, .inr (6, [.int 0, .ref kd, .ref mo, .ref st, .int 0, .ref ro, .ref tp, .int 40, .ref cd, .ref sr, .int 0, .int 0, .int 0, .ref ir, .ref ih, .ref ss, .ref sq, .ref ce, .ref lw, .int 25, .int 21, .int 0, .int 0, .ref wo, .ref he, .int 0, .int 0, .int 3, .ref sk, .ref na, .ref kp, .int 0, .int 0, .int 0, .int 0, .ref gb, .ref go, .ref fa, .ref ga, .int 0, .int 0, .ref vo])), (tp, .inl (G.2.1, 160, .inl (gPf tB 40))), (wo, .inl (G.2.1, 96, .inl (gPf tW 96)))]) (w1 := []) hP hD [] [0, 1, 2] rfl rfl (by decide) (by decide) hk1 hFc hP1 hD1
  have hP : va_P G.1 vwCl [(h0, .inr (6, [.int 0, .ref kd, .ref mo, .ref st, .int 0, .ref ro, .ref tp, .int 40, .ref cd, .ref sr, .int 0, .int 0, .int 0, .ref ir, .ref ih, .ref ss, .ref sq, .ref ce, .ref lw, .int 25, .int 21, .int 0, .int 0, .ref wo, .ref he, .int 0, .int 0, .int 3, .ref sk, .ref na, .ref kp, .int 0, .int 0, .int 0, .int 0, .ref gb, .ref go, .ref fa, .ref ga, .int 0, .int 0, .ref vo])), (tp, .inl (G.2.1, 160, .inl (gPf tB 40))), (wo, .inl (G.2.1, 96, .inl (gPf tW 96)))] H := hP
  have hD : va_D A [(h0, .inr (6, [.int 0, .ref kd, .ref mo, .ref st, .int 0, .ref ro, .ref tp, .int 40, .ref cd, .ref sr, .int 0, .int 0, .int 0, .ref ir, .ref ih, .ref ss, .ref sq, .ref ce, .ref lw, .int 25, .int 21, .int 0, .int 0, .ref wo, .ref he, .int 0, .int 0, .int 3, .ref sk, .ref na, .ref kp, .int 0, .int 0, .int 0, .int 0, .ref gb, .ref go, .ref fa, .ref ga, .int 0, .int 0, .ref vo])), (tp, .inl (G.2.1, 160, .inl (gPf tB 40))), (wo, .inl (G.2.1, 96, .inl (gPf tW 96)))] := hD
  have w_42 : r_41 = 1 := w_42
  subst w_42
  refine lv_if_eq (tgt := 146) hx hb dX6_next_130 (by decide) (fun c_43 => ?_) (fun c_43 => ?_)
  · exact absurd c_43 (by decide)
  refine lv_aload_n hx hb dX6_next_133 rfl (lv_at hl 1 rfl) ?_
  refine lv_dup hx hb dX6_next_134 rfl ?_
  refine va_get (D := G.1) (ci := 6) (v := .int 25) (C := RX6) (T := TX6) (N := 42) hx hb hts hiX6 hown hK hP 0 rfl rfl 19 (by decide) kf111 (fun _ h9 => h9) rfl dX6_next_135 ?_
  refine lv_iconst (v := 1) hx hb dX6_next_138 (by decide) ?_
  refine lv_iadd hx hb dX6_next_139 ?_
  refine lv_topi (fun v_44 ev_44 => ?_)
  have ev_44 : v_44 = 26 := ev_44.trans (by decide)
  subst ev_44
  refine va_put (D := G.1) (ci := 6) (v := .int 26) (ty := .int) (C := RX6) (T := TX6) (N := 42) hx hb hts hiX6 tyX6 tyX6_ok nmX6 hown hK hP hD hS 0 rfl rfl 19 (by decide) kf111 (fun _ h9 => h9) rfl (by decide +kernel) rfl rfl (Nat.le_of_ble_eq_true rfl) dX6_next_140 (fun H locs hP hD hS => ?_)
  have hP : va_P G.1 vwCl [(h0, .inr (6, [.int 0, .ref kd, .ref mo, .ref st, .int 0, .ref ro, .ref tp, .int 40, .ref cd, .ref sr, .int 0, .int 0, .int 0, .ref ir, .ref ih, .ref ss, .ref sq, .ref ce, .ref lw, .int 26, .int 21, .int 0, .int 0, .ref wo, .ref he, .int 0, .int 0, .int 3, .ref sk, .ref na, .ref kp, .int 0, .int 0, .int 0, .int 0, .ref gb, .ref go, .ref fa, .ref ga, .int 0, .int 0, .ref vo])), (tp, .inl (G.2.1, 160, .inl (gPf tB 40))), (wo, .inl (G.2.1, 96, .inl (gPf tW 96)))] H := hP
  have hD : va_D A [(h0, .inr (6, [.int 0, .ref kd, .ref mo, .ref st, .int 0, .ref ro, .ref tp, .int 40, .ref cd, .ref sr, .int 0, .int 0, .int 0, .ref ir, .ref ih, .ref ss, .ref sq, .ref ce, .ref lw, .int 26, .int 21, .int 0, .int 0, .ref wo, .ref he, .int 0, .int 0, .int 3, .ref sk, .ref na, .ref kp, .int 0, .int 0, .int 0, .int 0, .ref gb, .ref go, .ref fa, .ref ga, .int 0, .int 0, .ref vo])), (tp, .inl (G.2.1, 160, .inl (gPf tB 40))), (wo, .inl (G.2.1, 96, .inl (gPf tW 96)))] := hD
  refine lv_goto (tgt := 103) hx hb dX6_next_143 (by decide) ?_
  refine lv_aload_n hx hb dX6_next_103 rfl (lv_at hl 1 rfl) ?_
  refine va_get (D := G.1) (ci := 6) (v := .int 26) (C := RX6) (T := TX6) (N := 42) hx hb hts hiX6 hown hK hP 0 rfl rfl 19 (by decide) kf111 (fun _ h9 => h9) rfl dX6_next_104 ?_
  refine lv_aload_n hx hb dX6_next_107 rfl (lv_at hl 1 rfl) ?_
  refine va_get (D := G.1) (ci := 6) (v := .int 40) (C := RX6) (T := TX6) (N := 42) hx hb hts hiX6 hown hK hP 0 rfl rfl 7 (by decide) kf80 (fun _ h9 => h9) rfl dX6_next_108 ?_
  refine lv_icmp_ge (tgt := 146) hx hb dX6_next_111 (by decide) (fun c_45 => ?_) (fun c_45 => ?_)
  · exact absurd c_45 (by decide)
  refine lv_aload_n hx hb dX6_next_114 rfl (lv_at hl 1 rfl) ?_
  refine va_get (D := G.1) (ci := 6) (v := .ref tp) (C := RX6) (T := TX6) (N := 42) hx hb hts hiX6 hown hK hP 0 rfl rfl 6 (by decide) kf22 (fun _ h9 => h9) rfl dX6_next_115 ?_
  refine lv_aload_n hx hb dX6_next_118 rfl (lv_at hl 1 rfl) ?_
  refine va_get (D := G.1) (ci := 6) (v := .int 26) (C := RX6) (T := TX6) (N := 42) hx hb hts hiX6 hown hK hP 0 rfl rfl 19 (by decide) kf111 (fun _ h9 => h9) rfl dX6_next_119 ?_
  refine va_iald (D := G.1) hx hb hK hP 1 0 rfl rfl (i := 26) (gIn (by decide)) dX6_next_122 ?_
  refine lv_topi (fun v_46 ev_46 => ?_)
  have ev_46 : v_46 = 32 := ev_46.trans (by decide)
  subst ev_46
  refine lv_bipush (v := 97) hx hb dX6_next_123 (by decide) ?_
  refine lv_bipush (v := 122) hx hb dX6_next_125 (by decide) ?_
  have hPc : va_P G.1 vwCl [] H := hP.sub [] rfl
  have hDc : va_D A [] := hD.sub [] (by decide) rfl
  have hFc := va_free (wc := []) hD hS hA [] rfl
  refine va_calli (va_runS (As := [.int 32, .int 97, .int 122]) (rest := []) ⟨hx, hb, hml, hown, hts⟩ (c_X6_in_z6 l G H.size) (va_cwS 3 hts gX6_next_X6_in rfl rfl rfl (by decide +kernel) ⟨Nat.le_of_ble_eq_true rfl, Nat.le_of_ble_eq_true rfl⟩) ⟨gPre_blind, fun U hU hW => gPre_of hU hW hK hPc hDc⟩ rfl rfl hl.1 rfl (lv_room (Nat.le_of_ble_eq_true rfl)) dX6_next_127 ⟨Nat.le_of_ble_eq_true rfl, Nat.le_of_ble_eq_true rfl⟩) hS (fun q _ h => hFc q h) hFc (fun r_47 u t H locs ht hvm w_48 hB hz1 hk1 hS => ?_)
  obtain ⟨hP1, hK1, hD1⟩ := hB
  rw [ht] at hP1
  have hP1 : va_P G.1 vwCl [] H := hP1
  have hD1 : va_D (va_A [] _) [] := hD1
  have w_48 : r_47 = 0 := w_48
  obtain ⟨hP, hD⟩ := va_join (wr := [(h0, .inr (6, [.int 0, .ref kd, .ref mo, .ref st, .int 0, .ref ro, .ref tp, .int 40, .ref cd, .ref sr, .int 0, .int 0, .int 0, .ref ir, .ref ih, .ref ss, .ref sq, .ref ce, .ref lw, .int 26, .int 21, .int 0, .int 0, .ref wo, .ref he, .int 0, .int 0, .int 3, .ref sk, .ref na, .ref kp, .int 0, .int 0, .int 0, .int 0, .ref gb, .ref go, .ref fa, .ref ga, .int 0, .int 0, .ref vo])), (tp, .inl (G.2.1, 160, .inl (gPf tB 40))), (wo, .inl (G.2.1, 96, .inl (gPf tW 96)))]) (w1 := []) hP hD [] [0, 1, 2] rfl rfl (by decide) (by decide) hk1 hFc hP1 hD1
  have hP : va_P G.1 vwCl [(h0, .inr (6, [.int 0, .ref kd, .ref mo, .ref st, .int 0, .ref ro, .ref tp, .int 40, .ref cd, .ref sr, .int 0, .int 0, .int 0, .ref ir, .ref ih, .ref ss, .ref sq, .ref ce, .ref lw, .int 26, .int 21, .int 0, .int 0, .ref wo, .ref he, .int 0, .int 0, .int 3, .ref sk, .ref na, .ref kp, .int 0, .int 0, .int 0, .int 0, .ref gb, .ref go, .ref fa, .ref ga, .int 0, .int 0, .ref vo])), (tp, .inl (G.2.1, 160, .inl (gPf tB 40))), (wo, .inl (G.2.1, 96, .inl (gPf tW 96)))] H := hP
  have hD : va_D A [(h0, .inr (6, [.int 0, .ref kd, .ref mo, .ref st, .int 0, .ref ro, .ref tp, .int 40, .ref cd, .ref sr, .int 0, .int 0, .int 0, .ref ir, .ref ih, .ref ss, .ref sq, .ref ce, .ref lw, .int 26, .int 21, .int 0, .int 0, .ref wo, .ref he, .int 0, .int 0, .int 3, .ref sk, .ref na, .ref kp, .int 0, .int 0, .int 0, .int 0, .ref gb, .ref go, .ref fa, .ref ga, .int 0, .int 0, .ref vo])), (tp, .inl (G.2.1, 160, .inl (gPf tB 40))), (wo, .inl (G.2.1, 96, .inl (gPf tW 96)))] := hD
  have w_48 : r_47 = 0 := w_48
  subst w_48
  refine lv_if_eq (tgt := 146) hx hb dX6_next_130 (by decide) (fun c_49 => ?_) (fun c_49 => ?_)
  rotate_left
  · exact absurd (by decide) c_49
  refine lv_aload_n hx hb dX6_next_146 rfl (lv_at hl 1 rfl) ?_
  refine lv_aload_n hx hb dX6_next_147 rfl (lv_at hl 1 rfl) ?_
  refine va_get (D := G.1) (ci := 6) (v := .int 21) (C := RX6) (T := TX6) (N := 42) hx hb hts hiX6 hown hK hP 0 rfl rfl 20 (by decide) kf114 (fun _ h9 => h9) rfl dX6_next_148 ?_
  refine lv_aload_n hx hb dX6_next_151 rfl (lv_at hl 1 rfl) ?_
  refine va_get (D := G.1) (ci := 6) (v := .int 26) (C := RX6) (T := TX6) (N := 42) hx hb hts hiX6 hown hK hP 0 rfl rfl 19 (by decide) kf111 (fun _ h9 => h9) rfl dX6_next_152 ?_
  have hPc : va_P G.1 vwCl [(h0, .inr (6, [.int 0, .ref kd, .ref mo, .ref st, .int 0, .ref ro, .ref tp, .int 40, .ref cd, .ref sr, .int 0, .int 0, .int 0, .ref ir, .ref ih, .ref ss, .ref sq, .ref ce, .ref lw, .int 26, .int 21, .int 0, .int 0, .ref wo, .ref he, .int 0, .int 0, .int 3, .ref sk, .ref na, .ref kp, .int 0, .int 0, .int 0, .int 0, .ref gb, .ref go, .ref fa, .ref ga, .int 0, .int 0, .ref vo])), (tp, .inl (G.2.1, 160, .inl (gPf tB 40))), (wo, .inl (G.2.1, 96, .inl (gPf tW 96)))] H := hP.sub [0, 1, 2] rfl
  have hDc : va_D A [(h0, .inr (6, [.int 0, .ref kd, .ref mo, .ref st, .int 0, .ref ro, .ref tp, .int 40, .ref cd, .ref sr, .int 0, .int 0, .int 0, .ref ir, .ref ih, .ref ss, .ref sq, .ref ce, .ref lw, .int 26, .int 21, .int 0, .int 0, .ref wo, .ref he, .int 0, .int 0, .int 3, .ref sk, .ref na, .ref kp, .int 0, .int 0, .int 0, .int 0, .ref gb, .ref go, .ref fa, .ref ga, .int 0, .int 0, .ref vo])), (tp, .inl (G.2.1, 160, .inl (gPf tB 40))), (wo, .inl (G.2.1, 96, .inl (gPf tW 96)))] := hD.sub [0, 1, 2] (by decide) rfl
  have hFc := va_free (wc := [(h0, .inr (6, [.int 0, .ref kd, .ref mo, .ref st, .int 0, .ref ro, .ref tp, .int 40, .ref cd, .ref sr, .int 0, .int 0, .int 0, .ref ir, .ref ih, .ref ss, .ref sq, .ref ce, .ref lw, .int 26, .int 21, .int 0, .int 0, .ref wo, .ref he, .int 0, .int 0, .int 3, .ref sk, .ref na, .ref kp, .int 0, .int 0, .int 0, .int 0, .ref gb, .ref go, .ref fa, .ref ga, .int 0, .int 0, .ref vo])), (tp, .inl (G.2.1, 160, .inl (gPf tB 40))), (wo, .inl (G.2.1, 96, .inl (gPf tW 96)))]) hD hS hA [0, 1, 2] rfl
  refine va_calli (va_runV (As := [.int 21, .int 26]) (rest := []) ⟨hx, hb, hml, hown, hts⟩ (c_X6_wordFrom_z40 l G h0 kd mo st ro tp cd sr ir ih ss sq ce lw wo he sk na kp gb go fa ga vo H.size) (cwV 2 hts gX6_next_X6_wordFrom rfl rfl rfl (by decide +kernel) ⟨Nat.le_of_ble_eq_true rfl, Nat.le_of_ble_eq_true rfl⟩) ⟨gPre_blind, va_recv hK hPc (ci := 6) (q0 := 0) rfl rfl, fun U hU hW => gPre_of hU hW hK hPc hDc⟩ rfl rfl hl.1 rfl (lv_room (Nat.le_of_ble_eq_true rfl)) dX6_next_155 ⟨Nat.le_of_ble_eq_true rfl, Nat.le_of_ble_eq_true rfl⟩) hS (fun q _ h => hFc q h) hFc (fun r_50 u t H locs ht hvm w_51 hB hz1 hk1 hS => ?_)
  obtain ⟨hP1, hK1, hD1⟩ := hB
  rw [ht] at hP1
  have hP1 : va_P G.1 vwCl [(h0, .inr (6, [.int 0, .ref kd, .ref mo, .ref st, .int 0, .ref ro, .ref tp, .int 40, .ref cd, .ref sr, .int 0, .int 0, .int 0, .ref ir, .ref ih, .ref ss, .ref sq, .ref ce, .ref lw, .int 26, .int 21, .int 0, .int 0, .ref wo, .ref he, .int 0, .int 0, .int 3, .ref sk, .ref na, .ref kp, .int 0, .int 0, .int 0, .int 0, .ref gb, .ref go, .ref fa, .ref ga, .int 0, .int 0, .ref vo])), (tp, .inl (G.2.1, 160, .inl (gPf tB 40))), (wo, .inl (G.2.1, 96, .inl (gPf tW 96)))] H := hP1
  have hD1 : va_D (va_A [(h0, .inr (6, [.int 0, .ref kd, .ref mo, .ref st, .int 0, .ref ro, .ref tp, .int 40, .ref cd, .ref sr, .int 0, .int 0, .int 0, .ref ir, .ref ih, .ref ss, .ref sq, .ref ce, .ref lw, .int 26, .int 21, .int 0, .int 0, .ref wo, .ref he, .int 0, .int 0, .int 3, .ref sk, .ref na, .ref kp, .int 0, .int 0, .int 0, .int 0, .ref gb, .ref go, .ref fa, .ref ga, .int 0, .int 0, .ref vo])), (tp, .inl (G.2.1, 160, .inl (gPf tB 40))), (wo, .inl (G.2.1, 96, .inl (gPf tW 96)))] _) [(h0, .inr (6, [.int 0, .ref kd, .ref mo, .ref st, .int 0, .ref ro, .ref tp, .int 40, .ref cd, .ref sr, .int 0, .int 0, .int 0, .ref ir, .ref ih, .ref ss, .ref sq, .ref ce, .ref lw, .int 26, .int 21, .int 0, .int 0, .ref wo, .ref he, .int 0, .int 0, .int 3, .ref sk, .ref na, .ref kp, .int 0, .int 0, .int 0, .int 0, .ref gb, .ref go, .ref fa, .ref ga, .int 0, .int 0, .ref vo])), (tp, .inl (G.2.1, 160, .inl (gPf tB 40))), (wo, .inl (G.2.1, 96, .inl (gPf tW 96)))] := hD1
  have w_51 : r_50 = 1 := w_51
  obtain ⟨hP, hD⟩ := va_join (wr := []) (w1 := [(h0, .inr (6, [.int 0, .ref kd, .ref mo, .ref st, .int 0, .ref ro, .ref tp, .int 40, .ref cd, .ref sr, .int 0, .int 0, .int 0, .ref ir, .ref ih, .ref ss, .ref sq, .ref ce, .ref lw, .int 26, .int 21, .int 0, .int 0, .ref wo, .ref he, .int 0, .int 0, .int 3, .ref sk, .ref na, .ref kp, .int 0, .int 0, .int 0, .int 0, .ref gb, .ref go, .ref fa, .ref ga, .int 0, .int 0, .ref vo])), (tp, .inl (G.2.1, 160, .inl (gPf tB 40))), (wo, .inl (G.2.1, 96, .inl (gPf tW 96)))]) hP hD [0, 1, 2] [] rfl rfl (by decide) (by decide) hk1 hFc hP1 hD1
  have hP : va_P G.1 vwCl [(h0, .inr (6, [.int 0, .ref kd, .ref mo, .ref st, .int 0, .ref ro, .ref tp, .int 40, .ref cd, .ref sr, .int 0, .int 0, .int 0, .ref ir, .ref ih, .ref ss, .ref sq, .ref ce, .ref lw, .int 26, .int 21, .int 0, .int 0, .ref wo, .ref he, .int 0, .int 0, .int 3, .ref sk, .ref na, .ref kp, .int 0, .int 0, .int 0, .int 0, .ref gb, .ref go, .ref fa, .ref ga, .int 0, .int 0, .ref vo])), (tp, .inl (G.2.1, 160, .inl (gPf tB 40))), (wo, .inl (G.2.1, 96, .inl (gPf tW 96)))] H := hP
  have hD : va_D A [(h0, .inr (6, [.int 0, .ref kd, .ref mo, .ref st, .int 0, .ref ro, .ref tp, .int 40, .ref cd, .ref sr, .int 0, .int 0, .int 0, .ref ir, .ref ih, .ref ss, .ref sq, .ref ce, .ref lw, .int 26, .int 21, .int 0, .int 0, .ref wo, .ref he, .int 0, .int 0, .int 3, .ref sk, .ref na, .ref kp, .int 0, .int 0, .int 0, .int 0, .ref gb, .ref go, .ref fa, .ref ga, .int 0, .int 0, .ref vo])), (tp, .inl (G.2.1, 160, .inl (gPf tB 40))), (wo, .inl (G.2.1, 96, .inl (gPf tW 96)))] := hD
  have w_51 : r_50 = 1 := w_51
  subst w_51
  refine lv_istore_n (lv' := [(2, .int 1), (1, .int 119), (0, .ref h0)]) hx hb dX6_next_158 rfl hl (by decide) rfl (fun ls hl => ?_)
  refine lv_aload_n hx hb dX6_next_159 rfl (lv_at hl 2 rfl) ?_
  refine lv_iload_n hx hb dX6_next_160 rfl (lv_at hl 0 rfl) ?_
  refine lv_iconst (v := 3) hx hb dX6_next_161 (by decide) ?_
  refine lv_icmp_ge (tgt := 169) hx hb dX6_next_162 (by decide) (fun c_52 => ?_) (fun c_52 => ?_)
  · exact absurd c_52 (by decide)
  refine lv_iconst (v := 3) hx hb dX6_next_165 (by decide) ?_
  refine lv_goto (tgt := 195) hx hb dX6_next_166 (by decide) ?_
  refine va_put (D := G.1) (ci := 6) (v := .int 3) (ty := .int) (C := RX6) (T := TX6) (N := 42) hx hb hts hiX6 tyX6 tyX6_ok nmX6 hown hK hP hD hS 0 rfl rfl 21 (by decide) kf117 (fun _ h9 => h9) rfl (by decide +kernel) rfl rfl (Nat.le_of_ble_eq_true rfl) dX6_next_195 (fun H locs hP hD hS => ?_)
  have hP : va_P G.1 vwCl [(h0, .inr (6, [.int 0, .ref kd, .ref mo, .ref st, .int 0, .ref ro, .ref tp, .int 40, .ref cd, .ref sr, .int 0, .int 0, .int 0, .ref ir, .ref ih, .ref ss, .ref sq, .ref ce, .ref lw, .int 26, .int 21, .int 3, .int 0, .ref wo, .ref he, .int 0, .int 0, .int 3, .ref sk, .ref na, .ref kp, .int 0, .int 0, .int 0, .int 0, .ref gb, .ref go, .ref fa, .ref ga, .int 0, .int 0, .ref vo])), (tp, .inl (G.2.1, 160, .inl (gPf tB 40))), (wo, .inl (G.2.1, 96, .inl (gPf tW 96)))] H := hP
  have hD : va_D A [(h0, .inr (6, [.int 0, .ref kd, .ref mo, .ref st, .int 0, .ref ro, .ref tp, .int 40, .ref cd, .ref sr, .int 0, .int 0, .int 0, .ref ir, .ref ih, .ref ss, .ref sq, .ref ce, .ref lw, .int 26, .int 21, .int 3, .int 0, .ref wo, .ref he, .int 0, .int 0, .int 3, .ref sk, .ref na, .ref kp, .int 0, .int 0, .int 0, .int 0, .ref gb, .ref go, .ref fa, .ref ga, .int 0, .int 0, .ref vo])), (tp, .inl (G.2.1, 160, .inl (gPf tB 40))), (wo, .inl (G.2.1, 96, .inl (gPf tW 96)))] := hD
  refine lv_aload_n hx hb dX6_next_198 rfl (lv_at hl 2 rfl) ?_
  refine lv_iload_n hx hb dX6_next_199 rfl (lv_at hl 0 rfl) ?_
  refine lv_iconst (v := 3) hx hb dX6_next_200 (by decide) ?_
  refine lv_icmp_ge (tgt := 208) hx hb dX6_next_201 (by decide) (fun c_53 => ?_) (fun c_53 => ?_)
  · exact absurd c_53 (by decide)
  refine lv_iload_n hx hb dX6_next_204 rfl (lv_at hl 0 rfl) ?_
  refine lv_goto (tgt := 211) hx hb dX6_next_205 (by decide) ?_
  refine va_put (D := G.1) (ci := 6) (v := .int 1) (ty := .int) (C := RX6) (T := TX6) (N := 42) hx hb hts hiX6 tyX6 tyX6_ok nmX6 hown hK hP hD hS 0 rfl rfl 22 (by decide) kf120 (fun _ h9 => h9) rfl (by decide +kernel) rfl rfl (Nat.le_of_ble_eq_true rfl) dX6_next_211 (fun H locs hP hD hS => ?_)
  have hP : va_P G.1 vwCl [(h0, .inr (6, [.int 0, .ref kd, .ref mo, .ref st, .int 0, .ref ro, .ref tp, .int 40, .ref cd, .ref sr, .int 0, .int 0, .int 0, .ref ir, .ref ih, .ref ss, .ref sq, .ref ce, .ref lw, .int 26, .int 21, .int 3, .int 1, .ref wo, .ref he, .int 0, .int 0, .int 3, .ref sk, .ref na, .ref kp, .int 0, .int 0, .int 0, .int 0, .ref gb, .ref go, .ref fa, .ref ga, .int 0, .int 0, .ref vo])), (tp, .inl (G.2.1, 160, .inl (gPf tB 40))), (wo, .inl (G.2.1, 96, .inl (gPf tW 96)))] H := hP
  have hD : va_D A [(h0, .inr (6, [.int 0, .ref kd, .ref mo, .ref st, .int 0, .ref ro, .ref tp, .int 40, .ref cd, .ref sr, .int 0, .int 0, .int 0, .ref ir, .ref ih, .ref ss, .ref sq, .ref ce, .ref lw, .int 26, .int 21, .int 3, .int 1, .ref wo, .ref he, .int 0, .int 0, .int 3, .ref sk, .ref na, .ref kp, .int 0, .int 0, .int 0, .int 0, .ref gb, .ref go, .ref fa, .ref ga, .int 0, .int 0, .ref vo])), (tp, .inl (G.2.1, 160, .inl (gPf tB 40))), (wo, .inl (G.2.1, 96, .inl (gPf tW 96)))] := hD
  refine lv_goto (tgt := 403) hx hb dX6_next_214 (by decide) ?_
  have hP9 := hP.sub (ws' := [(h0, .inr (6, [.int 0, .ref kd, .ref mo, .ref st, .int 0, .ref ro, .ref tp, .int 40, .ref cd, .ref sr, .int 0, .int 0, .int 0, .ref ir, .ref ih, .ref ss, .ref sq, .ref ce, .ref lw, .int 26, .int 21, .int 3, .int 1, .ref wo, .ref he, .int 0, .int 0, .int 3, .ref sk, .ref na, .ref kp, .int 0, .int 0, .int 0, .int 0, .ref gb, .ref go, .ref fa, .ref ga, .int 0, .int 0, .ref vo])), (tp, .inl (G.2.1, 160, .inl (gPf tB 40))), (wo, .inl (G.2.1, 96, .inl (gPf tW 96)))]) [0, 1, 2] rfl
  have hD9 := hD.sub (ws' := [(h0, .inr (6, [.int 0, .ref kd, .ref mo, .ref st, .int 0, .ref ro, .ref tp, .int 40, .ref cd, .ref sr, .int 0, .int 0, .int 0, .ref ir, .ref ih, .ref ss, .ref sq, .ref ce, .ref lw, .int 26, .int 21, .int 3, .int 1, .ref wo, .ref he, .int 0, .int 0, .int 3, .ref sk, .ref na, .ref kp, .int 0, .int 0, .int 0, .int 0, .ref gb, .ref go, .ref fa, .ref ga, .int 0, .int 0, .ref vo])), (tp, .inl (G.2.1, 160, .inl (gPf tB 40))), (wo, .inl (G.2.1, 96, .inl (gPf tW 96)))]) [0, 1, 2] (by decide) rfl
  have hpost : (fun (u : Unit) => match u with | _ => True) () := by first | rfl | trivial
  exact W.vret hx hb hr (fun t ht hW => ⟨⟨(), rfl, hpost, by rw [ht]; exact hP9, va_K.moved hW.alike hK, hD9⟩, hS.F ht⟩) hS.2.2 dX6_next_403
abbrev q_X6_in_z43 (G : gG) (A : Nat → Prop) : Array Value → State → Outcome → State → Prop := va_Qi (fun (r : Int32) (u : Unit) => match u with | _ => r = 0) (fun (u : Unit) t => match u with | _ => va_P G.1 vwCl [] t.heap ∧ gK G t ∧ va_D A []) A
set_option maxHeartbeats 4000000 in
set_option maxRecDepth 100000 in
theorem c_X6_in_z43 (l : Launch) (G : gG) (sz : Nat) : Met l yX6_in wsX6_in ({ frames := 0, cells := 0, slots := 0, locals := 0 }) (gPre G [.int 49, .int 97, .int 122] [] sz) (q_X6_in_z43 G (va_A [] sz)) 0 0 (va_A [] sz) := by
  refine Met.ofW (cc := cX6_in) (maxL := 3) (ret := (some .boolean)) (by decide) rfl ?_
  intro p e s m args below meth c s₁ B hml hv
  obtain ⟨rfl, hsz, hP, hK, hD0⟩ := hv
  have hx := B.exec
  have hb := B.bytes
  have hr := B.returns
  have hts := atoms_spec (ws := wsX6_in) B.pre
  have hown : s.vm.findClass RX6 = some m.cls := findClass_of_methodNamed B.named
  have hlocks := B.notSynchronized
  subst hsz
  have hD := hD0.self (sz := s.heap.size)
  generalize hAe : va_A [] s.heap.size = A at hD ⊢
  have hA : ∀ q : Nat, s.heap.size ≤ q → A q := fun q h => by rw [← hAe]; exact Or.inr h
  have hS : va_S A s.heap s.heap [] := va_S.rf
  have hP : va_P G.1 vwCl [] s.heap := hP
  have hD : va_D A [] := hD
  have hl := lv_entry ([.int 49, .int 97, .int 122]) (n := 3) (Nat.le_of_ble_eq_true rfl)
  rw [lg_entry_eq]
  generalize (lg_sl ([.int 49, .int 97, .int 122]) ++ List.replicate (3 - (lg_sl ([.int 49, .int 97, .int 122])).length) Slot.unset).toArray = ls at hl ⊢
  have hl : lv_has ls 3 [(0, .int 49), (1, .int 97), (2, .int 122)] := hl
  refine lv_iload_n hx hb dX6_in_0 rfl (lv_at hl 0 rfl) ?_
  refine lv_iload_n hx hb dX6_in_1 rfl (lv_at hl 1 rfl) ?_
  refine lv_icmp_lt (tgt := 14) hx hb dX6_in_2 (by decide) (fun c_1 => ?_) (fun c_1 => ?_)
  rotate_left
  · exact absurd (by decide) c_1
  refine lv_iconst (v := 0) hx hb dX6_in_14 (by decide) ?_
  have hP9 := hP.sub (ws' := []) [] rfl
  have hD9 := hD.sub (ws' := []) [] (by decide) rfl
  have hpost : (fun (r : Int32) (u : Unit) => match u with | _ => r = 0) 0 () := by first | rfl | trivial
  exact W.zret (v := 0) hx hb hr (rfl) (fun t ht hW => ⟨⟨0, (), rfl, hpost, by rw [ht]; exact hP9, va_K.moved hW.alike hK, hD9⟩, hS.F ht⟩) hS.2.2 dX6_in_15
abbrev q_X6_in_z44 (G : gG) (A : Nat → Prop) : Array Value → State → Outcome → State → Prop := va_Qi (fun (r : Int32) (u : Unit) => match u with | _ => r = 1) (fun (u : Unit) t => match u with | _ => va_P G.1 vwCl [] t.heap ∧ gK G t ∧ va_D A []) A
set_option maxHeartbeats 4000000 in
set_option maxRecDepth 100000 in
theorem c_X6_in_z44 (l : Launch) (G : gG) (sz : Nat) : Met l yX6_in wsX6_in ({ frames := 0, cells := 0, slots := 0, locals := 0 }) (gPre G [.int 49, .int 48, .int 57] [] sz) (q_X6_in_z44 G (va_A [] sz)) 0 0 (va_A [] sz) := by
  refine Met.ofW (cc := cX6_in) (maxL := 3) (ret := (some .boolean)) (by decide) rfl ?_
  intro p e s m args below meth c s₁ B hml hv
  obtain ⟨rfl, hsz, hP, hK, hD0⟩ := hv
  have hx := B.exec
  have hb := B.bytes
  have hr := B.returns
  have hts := atoms_spec (ws := wsX6_in) B.pre
  have hown : s.vm.findClass RX6 = some m.cls := findClass_of_methodNamed B.named
  have hlocks := B.notSynchronized
  subst hsz
  have hD := hD0.self (sz := s.heap.size)
  generalize hAe : va_A [] s.heap.size = A at hD ⊢
  have hA : ∀ q : Nat, s.heap.size ≤ q → A q := fun q h => by rw [← hAe]; exact Or.inr h
  have hS : va_S A s.heap s.heap [] := va_S.rf
  have hP : va_P G.1 vwCl [] s.heap := hP
  have hD : va_D A [] := hD
  have hl := lv_entry ([.int 49, .int 48, .int 57]) (n := 3) (Nat.le_of_ble_eq_true rfl)
  rw [lg_entry_eq]
  generalize (lg_sl ([.int 49, .int 48, .int 57]) ++ List.replicate (3 - (lg_sl ([.int 49, .int 48, .int 57])).length) Slot.unset).toArray = ls at hl ⊢
  have hl : lv_has ls 3 [(0, .int 49), (1, .int 48), (2, .int 57)] := hl
  refine lv_iload_n hx hb dX6_in_0 rfl (lv_at hl 0 rfl) ?_
  refine lv_iload_n hx hb dX6_in_1 rfl (lv_at hl 1 rfl) ?_
  refine lv_icmp_lt (tgt := 14) hx hb dX6_in_2 (by decide) (fun c_1 => ?_) (fun c_1 => ?_)
  · exact absurd c_1 (by decide)
  refine lv_iload_n hx hb dX6_in_5 rfl (lv_at hl 0 rfl) ?_
  refine lv_iload_n hx hb dX6_in_6 rfl (lv_at hl 2 rfl) ?_
  refine lv_icmp_gt (tgt := 14) hx hb dX6_in_7 (by decide) (fun c_2 => ?_) (fun c_2 => ?_)
  · exact absurd c_2 (by decide)
  refine lv_iconst (v := 1) hx hb dX6_in_10 (by decide) ?_
  refine lv_goto (tgt := 15) hx hb dX6_in_11 (by decide) ?_
  have hP9 := hP.sub (ws' := []) [] rfl
  have hD9 := hD.sub (ws' := []) [] (by decide) rfl
  have hpost : (fun (r : Int32) (u : Unit) => match u with | _ => r = 1) 1 () := by first | rfl | trivial
  exact W.zret (v := 1) hx hb hr (rfl) (fun t ht hW => ⟨⟨1, (), rfl, hpost, by rw [ht]; exact hP9, va_K.moved hW.alike hK, hD9⟩, hS.F ht⟩) hS.2.2 dX6_in_15
abbrev q_X6_in_z45 (G : gG) (A : Nat → Prop) : Array Value → State → Outcome → State → Prop := va_Qi (fun (r : Int32) (u : Unit) => match u with | _ => r = 0) (fun (u : Unit) t => match u with | _ => va_P G.1 vwCl [] t.heap ∧ gK G t ∧ va_D A []) A
set_option maxHeartbeats 4000000 in
set_option maxRecDepth 100000 in
theorem c_X6_in_z45 (l : Launch) (G : gG) (sz : Nat) : Met l yX6_in wsX6_in ({ frames := 0, cells := 0, slots := 0, locals := 0 }) (gPre G [.int 32, .int 48, .int 57] [] sz) (q_X6_in_z45 G (va_A [] sz)) 0 0 (va_A [] sz) := by
  refine Met.ofW (cc := cX6_in) (maxL := 3) (ret := (some .boolean)) (by decide) rfl ?_
  intro p e s m args below meth c s₁ B hml hv
  obtain ⟨rfl, hsz, hP, hK, hD0⟩ := hv
  have hx := B.exec
  have hb := B.bytes
  have hr := B.returns
  have hts := atoms_spec (ws := wsX6_in) B.pre
  have hown : s.vm.findClass RX6 = some m.cls := findClass_of_methodNamed B.named
  have hlocks := B.notSynchronized
  subst hsz
  have hD := hD0.self (sz := s.heap.size)
  generalize hAe : va_A [] s.heap.size = A at hD ⊢
  have hA : ∀ q : Nat, s.heap.size ≤ q → A q := fun q h => by rw [← hAe]; exact Or.inr h
  have hS : va_S A s.heap s.heap [] := va_S.rf
  have hP : va_P G.1 vwCl [] s.heap := hP
  have hD : va_D A [] := hD
  have hl := lv_entry ([.int 32, .int 48, .int 57]) (n := 3) (Nat.le_of_ble_eq_true rfl)
  rw [lg_entry_eq]
  generalize (lg_sl ([.int 32, .int 48, .int 57]) ++ List.replicate (3 - (lg_sl ([.int 32, .int 48, .int 57])).length) Slot.unset).toArray = ls at hl ⊢
  have hl : lv_has ls 3 [(0, .int 32), (1, .int 48), (2, .int 57)] := hl
  refine lv_iload_n hx hb dX6_in_0 rfl (lv_at hl 0 rfl) ?_
  refine lv_iload_n hx hb dX6_in_1 rfl (lv_at hl 1 rfl) ?_
  refine lv_icmp_lt (tgt := 14) hx hb dX6_in_2 (by decide) (fun c_1 => ?_) (fun c_1 => ?_)
  rotate_left
  · exact absurd (by decide) c_1
  refine lv_iconst (v := 0) hx hb dX6_in_14 (by decide) ?_
  have hP9 := hP.sub (ws' := []) [] rfl
  have hD9 := hD.sub (ws' := []) [] (by decide) rfl
  have hpost : (fun (r : Int32) (u : Unit) => match u with | _ => r = 0) 0 () := by first | rfl | trivial
  exact W.zret (v := 0) hx hb hr (rfl) (fun t ht hW => ⟨⟨0, (), rfl, hpost, by rw [ht]; exact hP9, va_K.moved hW.alike hK, hD9⟩, hS.F ht⟩) hS.2.2 dX6_in_15
abbrev q_X6_next_z42 (G : gG) (h0 kd mo st ro tp cd sr ir ih ss sq ce lw wo he sk na kp gb go fa ga vo : Nat) (A : Nat → Prop) : Array Value → State → Outcome → State → Prop := va_Qv (fun (u : Unit) => match u with | _ => True) (fun (u : Unit) t => match u with | _ => va_P G.1 vwCl [(h0, .inr (6, [.int 0, .ref kd, .ref mo, .ref st, .int 0, .ref ro, .ref tp, .int 40, .ref cd, .ref sr, .int 0, .int 0, .int 0, .ref ir, .ref ih, .ref ss, .ref sq, .ref ce, .ref lw, .int 28, .int 27, .int 1, .int 1, .ref wo, .ref he, .int 0, .int 0, .int 3, .ref sk, .ref na, .ref kp, .int 0, .int 0, .int 0, .int 0, .ref gb, .ref go, .ref fa, .ref ga, .int 0, .int 0, .ref vo])), (tp, .inl (G.2.1, 160, .inl (gPf tB 40))), (wo, .inl (G.2.1, 96, .inl (gPf tW 96)))] t.heap ∧ gK G t ∧ va_D A [(h0, .inr (6, [.int 0, .ref kd, .ref mo, .ref st, .int 0, .ref ro, .ref tp, .int 40, .ref cd, .ref sr, .int 0, .int 0, .int 0, .ref ir, .ref ih, .ref ss, .ref sq, .ref ce, .ref lw, .int 28, .int 27, .int 1, .int 1, .ref wo, .ref he, .int 0, .int 0, .int 3, .ref sk, .ref na, .ref kp, .int 0, .int 0, .int 0, .int 0, .ref gb, .ref go, .ref fa, .ref ga, .int 0, .int 0, .ref vo])), (tp, .inl (G.2.1, 160, .inl (gPf tB 40))), (wo, .inl (G.2.1, 96, .inl (gPf tW 96)))]) A
set_option maxHeartbeats 4000000 in
set_option maxRecDepth 100000 in
theorem c_X6_next_z42 (l : Launch) (G : gG) (h0 kd mo st ro tp cd sr ir ih ss sq ce lw wo he sk na kp gb go fa ga vo : Nat) (sz : Nat) : Met l yX6_next wsX6_next ({ frames := 1, cells := 0, slots := 0, locals := 22 }) (gPre G [.ref h0] [(h0, .inr (6, [.int 0, .ref kd, .ref mo, .ref st, .int 0, .ref ro, .ref tp, .int 40, .ref cd, .ref sr, .int 0, .int 0, .int 0, .ref ir, .ref ih, .ref ss, .ref sq, .ref ce, .ref lw, .int 26, .int 21, .int 3, .int 1, .ref wo, .ref he, .int 0, .int 0, .int 3, .ref sk, .ref na, .ref kp, .int 0, .int 0, .int 0, .int 0, .ref gb, .ref go, .ref fa, .ref ga, .int 0, .int 0, .ref vo])), (tp, .inl (G.2.1, 160, .inl (gPf tB 40))), (wo, .inl (G.2.1, 96, .inl (gPf tW 96)))] sz) (q_X6_next_z42 G h0 kd mo st ro tp cd sr ir ih ss sq ce lw wo he sk na kp gb go fa ga vo (va_A [(h0, .inr (6, [.int 0, .ref kd, .ref mo, .ref st, .int 0, .ref ro, .ref tp, .int 40, .ref cd, .ref sr, .int 0, .int 0, .int 0, .ref ir, .ref ih, .ref ss, .ref sq, .ref ce, .ref lw, .int 26, .int 21, .int 3, .int 1, .ref wo, .ref he, .int 0, .int 0, .int 3, .ref sk, .ref na, .ref kp, .int 0, .int 0, .int 0, .int 0, .ref gb, .ref go, .ref fa, .ref ga, .int 0, .int 0, .ref vo])), (tp, .inl (G.2.1, 160, .inl (gPf tB 40))), (wo, .inl (G.2.1, 96, .inl (gPf tW 96)))] sz)) 0 0 (va_A [(h0, .inr (6, [.int 0, .ref kd, .ref mo, .ref st, .int 0, .ref ro, .ref tp, .int 40, .ref cd, .ref sr, .int 0, .int 0, .int 0, .ref ir, .ref ih, .ref ss, .ref sq, .ref ce, .ref lw, .int 26, .int 21, .int 3, .int 1, .ref wo, .ref he, .int 0, .int 0, .int 3, .ref sk, .ref na, .ref kp, .int 0, .int 0, .int 0, .int 0, .ref gb, .ref go, .ref fa, .ref ga, .int 0, .int 0, .ref vo])), (tp, .inl (G.2.1, 160, .inl (gPf tB 40))), (wo, .inl (G.2.1, 96, .inl (gPf tW 96)))] sz) := by
  refine Met.ofW (cc := cX6_next) (maxL := 3) (ret := none) (by decide) rfl ?_
  intro p e s m args below meth c s₁ B hml hv
  obtain ⟨rfl, hsz, hP, hK, hD0⟩ := hv
  have hx := B.exec
  have hb := B.bytes
  have hr := B.returns
  have hts := atoms_spec (ws := wsX6_next) B.pre
  have hown : s.vm.findClass RX6 = some m.cls := findClass_of_methodNamed B.named
  have hlocks := B.notSynchronized
  subst hsz
  have hD := hD0.self (sz := s.heap.size)
  generalize hAe : va_A [(h0, .inr (6, [.int 0, .ref kd, .ref mo, .ref st, .int 0, .ref ro, .ref tp, .int 40, .ref cd, .ref sr, .int 0, .int 0, .int 0, .ref ir, .ref ih, .ref ss, .ref sq, .ref ce, .ref lw, .int 26, .int 21, .int 3, .int 1, .ref wo, .ref he, .int 0, .int 0, .int 3, .ref sk, .ref na, .ref kp, .int 0, .int 0, .int 0, .int 0, .ref gb, .ref go, .ref fa, .ref ga, .int 0, .int 0, .ref vo])), (tp, .inl (G.2.1, 160, .inl (gPf tB 40))), (wo, .inl (G.2.1, 96, .inl (gPf tW 96)))] s.heap.size = A at hD ⊢
  have hA : ∀ q : Nat, s.heap.size ≤ q → A q := fun q h => by rw [← hAe]; exact Or.inr h
  have hS : va_S A s.heap s.heap [] := va_S.rf
  have hP : va_P G.1 vwCl [(h0, .inr (6, [.int 0, .ref kd, .ref mo, .ref st, .int 0, .ref ro, .ref tp, .int 40, .ref cd, .ref sr, .int 0, .int 0, .int 0, .ref ir, .ref ih, .ref ss, .ref sq, .ref ce, .ref lw, .int 26, .int 21, .int 3, .int 1, .ref wo, .ref he, .int 0, .int 0, .int 3, .ref sk, .ref na, .ref kp, .int 0, .int 0, .int 0, .int 0, .ref gb, .ref go, .ref fa, .ref ga, .int 0, .int 0, .ref vo])), (tp, .inl (G.2.1, 160, .inl (gPf tB 40))), (wo, .inl (G.2.1, 96, .inl (gPf tW 96)))] s.heap := hP
  have hD : va_D A [(h0, .inr (6, [.int 0, .ref kd, .ref mo, .ref st, .int 0, .ref ro, .ref tp, .int 40, .ref cd, .ref sr, .int 0, .int 0, .int 0, .ref ir, .ref ih, .ref ss, .ref sq, .ref ce, .ref lw, .int 26, .int 21, .int 3, .int 1, .ref wo, .ref he, .int 0, .int 0, .int 3, .ref sk, .ref na, .ref kp, .int 0, .int 0, .int 0, .int 0, .ref gb, .ref go, .ref fa, .ref ga, .int 0, .int 0, .ref vo])), (tp, .inl (G.2.1, 160, .inl (gPf tB 40))), (wo, .inl (G.2.1, 96, .inl (gPf tW 96)))] := hD
  have hl := lv_entry ([.ref h0]) (n := 3) (Nat.le_of_ble_eq_true rfl)
  rw [lg_entry_eq]
  generalize (lg_sl ([.ref h0]) ++ List.replicate (3 - (lg_sl ([.ref h0])).length) Slot.unset).toArray = ls at hl ⊢
  have hl : lv_has ls 3 [(0, .ref h0)] := hl
  have kf111 := hts (.fieldLink RX6 111 "PebbleInShoeModel" "at" "I") (by decide +kernel)
  have hiX6 := (by decide +kernel : ∀ w ∈ wsX60, w ∈ wsX6_next)
  have kf80 := hts (.fieldLink RX6 80 "PebbleInShoeModel" "taped" "I") (by decide +kernel)
  have kf22 := hts (.fieldLink RX6 22 "PebbleInShoeModel" "tape" "[I") (by decide +kernel)
  have kf114 := hts (.fieldLink RX6 114 "PebbleInShoeModel" "begun" "I") (by decide +kernel)
  have kf117 := hts (.fieldLink RX6 117 "PebbleInShoeModel" "token" "I") (by decide +kernel)
  have kf120 := hts (.fieldLink RX6 120 "PebbleInShoeModel" "value" "I") (by decide +kernel)
  refine lv_aload_n hx hb dX6_next_0 rfl (lv_at hl 0 rfl) ?_
  refine va_get (D := G.1) (ci := 6) (v := .int 26) (C := RX6) (T := TX6) (N := 42) hx hb hts hiX6 hown hK hP 0 rfl rfl 19 (by decide) kf111 (fun _ h9 => h9) rfl dX6_next_1 ?_
  refine lv_aload_n hx hb dX6_next_4 rfl (lv_at hl 0 rfl) ?_
  refine va_get (D := G.1) (ci := 6) (v := .int 40) (C := RX6) (T := TX6) (N := 42) hx hb hts hiX6 hown hK hP 0 rfl rfl 7 (by decide) kf80 (fun _ h9 => h9) rfl dX6_next_5 ?_
  refine lv_icmp_ge (tgt := 52) hx hb dX6_next_8 (by decide) (fun c_1 => ?_) (fun c_1 => ?_)
  · exact absurd c_1 (by decide)
  refine lv_aload_n hx hb dX6_next_11 rfl (lv_at hl 0 rfl) ?_
  refine va_get (D := G.1) (ci := 6) (v := .ref tp) (C := RX6) (T := TX6) (N := 42) hx hb hts hiX6 hown hK hP 0 rfl rfl 6 (by decide) kf22 (fun _ h9 => h9) rfl dX6_next_12 ?_
  refine lv_aload_n hx hb dX6_next_15 rfl (lv_at hl 0 rfl) ?_
  refine va_get (D := G.1) (ci := 6) (v := .int 26) (C := RX6) (T := TX6) (N := 42) hx hb hts hiX6 hown hK hP 0 rfl rfl 19 (by decide) kf111 (fun _ h9 => h9) rfl dX6_next_16 ?_
  refine va_iald (D := G.1) hx hb hK hP 1 0 rfl rfl (i := 26) (gIn (by decide)) dX6_next_19 ?_
  refine lv_topi (fun v_2 ev_2 => ?_)
  have ev_2 : v_2 = 32 := ev_2.trans (by decide)
  subst ev_2
  refine lv_bipush (v := 32) hx hb dX6_next_20 (by decide) ?_
  refine lv_icmp_eq (tgt := 39) hx hb dX6_next_22 (by decide) (fun c_3 => ?_) (fun c_3 => ?_)
  rotate_left
  · exact absurd (by decide) c_3
  refine lv_aload_n hx hb dX6_next_39 rfl (lv_at hl 0 rfl) ?_
  refine lv_dup hx hb dX6_next_40 rfl ?_
  refine va_get (D := G.1) (ci := 6) (v := .int 26) (C := RX6) (T := TX6) (N := 42) hx hb hts hiX6 hown hK hP 0 rfl rfl 19 (by decide) kf111 (fun _ h9 => h9) rfl dX6_next_41 ?_
  refine lv_iconst (v := 1) hx hb dX6_next_44 (by decide) ?_
  refine lv_iadd hx hb dX6_next_45 ?_
  refine lv_topi (fun v_4 ev_4 => ?_)
  have ev_4 : v_4 = 27 := ev_4.trans (by decide)
  subst ev_4
  refine va_put (D := G.1) (ci := 6) (v := .int 27) (ty := .int) (C := RX6) (T := TX6) (N := 42) hx hb hts hiX6 tyX6 tyX6_ok nmX6 hown hK hP hD hS 0 rfl rfl 19 (by decide) kf111 (fun _ h9 => h9) rfl (by decide +kernel) rfl rfl (Nat.le_of_ble_eq_true rfl) dX6_next_46 (fun H locs hP hD hS => ?_)
  have hP : va_P G.1 vwCl [(h0, .inr (6, [.int 0, .ref kd, .ref mo, .ref st, .int 0, .ref ro, .ref tp, .int 40, .ref cd, .ref sr, .int 0, .int 0, .int 0, .ref ir, .ref ih, .ref ss, .ref sq, .ref ce, .ref lw, .int 27, .int 21, .int 3, .int 1, .ref wo, .ref he, .int 0, .int 0, .int 3, .ref sk, .ref na, .ref kp, .int 0, .int 0, .int 0, .int 0, .ref gb, .ref go, .ref fa, .ref ga, .int 0, .int 0, .ref vo])), (tp, .inl (G.2.1, 160, .inl (gPf tB 40))), (wo, .inl (G.2.1, 96, .inl (gPf tW 96)))] H := hP
  have hD : va_D A [(h0, .inr (6, [.int 0, .ref kd, .ref mo, .ref st, .int 0, .ref ro, .ref tp, .int 40, .ref cd, .ref sr, .int 0, .int 0, .int 0, .ref ir, .ref ih, .ref ss, .ref sq, .ref ce, .ref lw, .int 27, .int 21, .int 3, .int 1, .ref wo, .ref he, .int 0, .int 0, .int 3, .ref sk, .ref na, .ref kp, .int 0, .int 0, .int 0, .int 0, .ref gb, .ref go, .ref fa, .ref ga, .int 0, .int 0, .ref vo])), (tp, .inl (G.2.1, 160, .inl (gPf tB 40))), (wo, .inl (G.2.1, 96, .inl (gPf tW 96)))] := hD
  refine lv_goto (tgt := 0) hx hb dX6_next_49 (by decide) ?_
  refine lv_aload_n hx hb dX6_next_0 rfl (lv_at hl 0 rfl) ?_
  refine va_get (D := G.1) (ci := 6) (v := .int 27) (C := RX6) (T := TX6) (N := 42) hx hb hts hiX6 hown hK hP 0 rfl rfl 19 (by decide) kf111 (fun _ h9 => h9) rfl dX6_next_1 ?_
  refine lv_aload_n hx hb dX6_next_4 rfl (lv_at hl 0 rfl) ?_
  refine va_get (D := G.1) (ci := 6) (v := .int 40) (C := RX6) (T := TX6) (N := 42) hx hb hts hiX6 hown hK hP 0 rfl rfl 7 (by decide) kf80 (fun _ h9 => h9) rfl dX6_next_5 ?_
  refine lv_icmp_ge (tgt := 52) hx hb dX6_next_8 (by decide) (fun c_5 => ?_) (fun c_5 => ?_)
  · exact absurd c_5 (by decide)
  refine lv_aload_n hx hb dX6_next_11 rfl (lv_at hl 0 rfl) ?_
  refine va_get (D := G.1) (ci := 6) (v := .ref tp) (C := RX6) (T := TX6) (N := 42) hx hb hts hiX6 hown hK hP 0 rfl rfl 6 (by decide) kf22 (fun _ h9 => h9) rfl dX6_next_12 ?_
  refine lv_aload_n hx hb dX6_next_15 rfl (lv_at hl 0 rfl) ?_
  refine va_get (D := G.1) (ci := 6) (v := .int 27) (C := RX6) (T := TX6) (N := 42) hx hb hts hiX6 hown hK hP 0 rfl rfl 19 (by decide) kf111 (fun _ h9 => h9) rfl dX6_next_16 ?_
  refine va_iald (D := G.1) hx hb hK hP 1 0 rfl rfl (i := 27) (gIn (by decide)) dX6_next_19 ?_
  refine lv_topi (fun v_6 ev_6 => ?_)
  have ev_6 : v_6 = 49 := ev_6.trans (by decide)
  subst ev_6
  refine lv_bipush (v := 32) hx hb dX6_next_20 (by decide) ?_
  refine lv_icmp_eq (tgt := 39) hx hb dX6_next_22 (by decide) (fun c_7 => ?_) (fun c_7 => ?_)
  · exact absurd c_7 (by decide)
  refine lv_aload_n hx hb dX6_next_25 rfl (lv_at hl 0 rfl) ?_
  refine va_get (D := G.1) (ci := 6) (v := .ref tp) (C := RX6) (T := TX6) (N := 42) hx hb hts hiX6 hown hK hP 0 rfl rfl 6 (by decide) kf22 (fun _ h9 => h9) rfl dX6_next_26 ?_
  refine lv_aload_n hx hb dX6_next_29 rfl (lv_at hl 0 rfl) ?_
  refine va_get (D := G.1) (ci := 6) (v := .int 27) (C := RX6) (T := TX6) (N := 42) hx hb hts hiX6 hown hK hP 0 rfl rfl 19 (by decide) kf111 (fun _ h9 => h9) rfl dX6_next_30 ?_
  refine va_iald (D := G.1) hx hb hK hP 1 0 rfl rfl (i := 27) (gIn (by decide)) dX6_next_33 ?_
  refine lv_topi (fun v_8 ev_8 => ?_)
  have ev_8 : v_8 = 49 := ev_8.trans (by decide)
  subst ev_8
  refine lv_bipush (v := 10) hx hb dX6_next_34 (by decide) ?_
  refine lv_icmp_ne (tgt := 52) hx hb dX6_next_36 (by decide) (fun c_9 => ?_) (fun c_9 => ?_)
  rotate_left
  · exact absurd c_9 (by decide)
  refine lv_aload_n hx hb dX6_next_52 rfl (lv_at hl 0 rfl) ?_
  refine lv_aload_n hx hb dX6_next_53 rfl (lv_at hl 0 rfl) ?_
  refine va_get (D := G.1) (ci := 6) (v := .int 27) (C := RX6) (T := TX6) (N := 42) hx hb hts hiX6 hown hK hP 0 rfl rfl 19 (by decide) kf111 (fun _ h9 => h9) rfl dX6_next_54 ?_
  refine va_put (D := G.1) (ci := 6) (v := .int 27) (ty := .int) (C := RX6) (T := TX6) (N := 42) hx hb hts hiX6 tyX6 tyX6_ok nmX6 hown hK hP hD hS 0 rfl rfl 20 (by decide) kf114 (fun _ h9 => h9) rfl (by decide +kernel) rfl rfl (Nat.le_of_ble_eq_true rfl) dX6_next_57 (fun H locs hP hD hS => ?_)
  have hP : va_P G.1 vwCl [(h0, .inr (6, [.int 0, .ref kd, .ref mo, .ref st, .int 0, .ref ro, .ref tp, .int 40, .ref cd, .ref sr, .int 0, .int 0, .int 0, .ref ir, .ref ih, .ref ss, .ref sq, .ref ce, .ref lw, .int 27, .int 27, .int 3, .int 1, .ref wo, .ref he, .int 0, .int 0, .int 3, .ref sk, .ref na, .ref kp, .int 0, .int 0, .int 0, .int 0, .ref gb, .ref go, .ref fa, .ref ga, .int 0, .int 0, .ref vo])), (tp, .inl (G.2.1, 160, .inl (gPf tB 40))), (wo, .inl (G.2.1, 96, .inl (gPf tW 96)))] H := hP
  have hD : va_D A [(h0, .inr (6, [.int 0, .ref kd, .ref mo, .ref st, .int 0, .ref ro, .ref tp, .int 40, .ref cd, .ref sr, .int 0, .int 0, .int 0, .ref ir, .ref ih, .ref ss, .ref sq, .ref ce, .ref lw, .int 27, .int 27, .int 3, .int 1, .ref wo, .ref he, .int 0, .int 0, .int 3, .ref sk, .ref na, .ref kp, .int 0, .int 0, .int 0, .int 0, .ref gb, .ref go, .ref fa, .ref ga, .int 0, .int 0, .ref vo])), (tp, .inl (G.2.1, 160, .inl (gPf tB 40))), (wo, .inl (G.2.1, 96, .inl (gPf tW 96)))] := hD
  refine lv_aload_n hx hb dX6_next_60 rfl (lv_at hl 0 rfl) ?_
  refine lv_iconst (v := 0) hx hb dX6_next_61 (by decide) ?_
  refine va_put (D := G.1) (ci := 6) (v := .int 0) (ty := .int) (C := RX6) (T := TX6) (N := 42) hx hb hts hiX6 tyX6 tyX6_ok nmX6 hown hK hP hD hS 0 rfl rfl 21 (by decide) kf117 (fun _ h9 => h9) rfl (by decide +kernel) rfl rfl (Nat.le_of_ble_eq_true rfl) dX6_next_62 (fun H locs hP hD hS => ?_)
  have hP : va_P G.1 vwCl [(h0, .inr (6, [.int 0, .ref kd, .ref mo, .ref st, .int 0, .ref ro, .ref tp, .int 40, .ref cd, .ref sr, .int 0, .int 0, .int 0, .ref ir, .ref ih, .ref ss, .ref sq, .ref ce, .ref lw, .int 27, .int 27, .int 0, .int 1, .ref wo, .ref he, .int 0, .int 0, .int 3, .ref sk, .ref na, .ref kp, .int 0, .int 0, .int 0, .int 0, .ref gb, .ref go, .ref fa, .ref ga, .int 0, .int 0, .ref vo])), (tp, .inl (G.2.1, 160, .inl (gPf tB 40))), (wo, .inl (G.2.1, 96, .inl (gPf tW 96)))] H := hP
  have hD : va_D A [(h0, .inr (6, [.int 0, .ref kd, .ref mo, .ref st, .int 0, .ref ro, .ref tp, .int 40, .ref cd, .ref sr, .int 0, .int 0, .int 0, .ref ir, .ref ih, .ref ss, .ref sq, .ref ce, .ref lw, .int 27, .int 27, .int 0, .int 1, .ref wo, .ref he, .int 0, .int 0, .int 3, .ref sk, .ref na, .ref kp, .int 0, .int 0, .int 0, .int 0, .ref gb, .ref go, .ref fa, .ref ga, .int 0, .int 0, .ref vo])), (tp, .inl (G.2.1, 160, .inl (gPf tB 40))), (wo, .inl (G.2.1, 96, .inl (gPf tW 96)))] := hD
  refine lv_aload_n hx hb dX6_next_65 rfl (lv_at hl 0 rfl) ?_
  refine lv_iconst (v := 0) hx hb dX6_next_66 (by decide) ?_
  refine va_put (D := G.1) (ci := 6) (v := .int 0) (ty := .int) (C := RX6) (T := TX6) (N := 42) hx hb hts hiX6 tyX6 tyX6_ok nmX6 hown hK hP hD hS 0 rfl rfl 22 (by decide) kf120 (fun _ h9 => h9) rfl (by decide +kernel) rfl rfl (Nat.le_of_ble_eq_true rfl) dX6_next_67 (fun H locs hP hD hS => ?_)
  have hP : va_P G.1 vwCl [(h0, .inr (6, [.int 0, .ref kd, .ref mo, .ref st, .int 0, .ref ro, .ref tp, .int 40, .ref cd, .ref sr, .int 0, .int 0, .int 0, .ref ir, .ref ih, .ref ss, .ref sq, .ref ce, .ref lw, .int 27, .int 27, .int 0, .int 0, .ref wo, .ref he, .int 0, .int 0, .int 3, .ref sk, .ref na, .ref kp, .int 0, .int 0, .int 0, .int 0, .ref gb, .ref go, .ref fa, .ref ga, .int 0, .int 0, .ref vo])), (tp, .inl (G.2.1, 160, .inl (gPf tB 40))), (wo, .inl (G.2.1, 96, .inl (gPf tW 96)))] H := hP
  have hD : va_D A [(h0, .inr (6, [.int 0, .ref kd, .ref mo, .ref st, .int 0, .ref ro, .ref tp, .int 40, .ref cd, .ref sr, .int 0, .int 0, .int 0, .ref ir, .ref ih, .ref ss, .ref sq, .ref ce, .ref lw, .int 27, .int 27, .int 0, .int 0, .ref wo, .ref he, .int 0, .int 0, .int 3, .ref sk, .ref na, .ref kp, .int 0, .int 0, .int 0, .int 0, .ref gb, .ref go, .ref fa, .ref ga, .int 0, .int 0, .ref vo])), (tp, .inl (G.2.1, 160, .inl (gPf tB 40))), (wo, .inl (G.2.1, 96, .inl (gPf tW 96)))] := hD
  refine lv_aload_n hx hb dX6_next_70 rfl (lv_at hl 0 rfl) ?_
  refine va_get (D := G.1) (ci := 6) (v := .int 27) (C := RX6) (T := TX6) (N := 42) hx hb hts hiX6 hown hK hP 0 rfl rfl 19 (by decide) kf111 (fun _ h9 => h9) rfl dX6_next_71 ?_
  refine lv_aload_n hx hb dX6_next_74 rfl (lv_at hl 0 rfl) ?_
  refine va_get (D := G.1) (ci := 6) (v := .int 40) (C := RX6) (T := TX6) (N := 42) hx hb hts hiX6 hown hK hP 0 rfl rfl 7 (by decide) kf80 (fun _ h9 => h9) rfl dX6_next_75 ?_
  refine lv_icmp_ne (tgt := 82) hx hb dX6_next_78 (by decide) (fun c_10 => ?_) (fun c_10 => ?_)
  rotate_left
  · exact absurd c_10 (by decide)
  refine lv_aload_n hx hb dX6_next_82 rfl (lv_at hl 0 rfl) ?_
  refine va_get (D := G.1) (ci := 6) (v := .ref tp) (C := RX6) (T := TX6) (N := 42) hx hb hts hiX6 hown hK hP 0 rfl rfl 6 (by decide) kf22 (fun _ h9 => h9) rfl dX6_next_83 ?_
  refine lv_aload_n hx hb dX6_next_86 rfl (lv_at hl 0 rfl) ?_
  refine va_get (D := G.1) (ci := 6) (v := .int 27) (C := RX6) (T := TX6) (N := 42) hx hb hts hiX6 hown hK hP 0 rfl rfl 19 (by decide) kf111 (fun _ h9 => h9) rfl dX6_next_87 ?_
  refine va_iald (D := G.1) hx hb hK hP 1 0 rfl rfl (i := 27) (gIn (by decide)) dX6_next_90 ?_
  refine lv_topi (fun v_11 ev_11 => ?_)
  have ev_11 : v_11 = 49 := ev_11.trans (by decide)
  subst ev_11
  refine lv_istore_n (lv' := [(1, .int 49), (0, .ref h0)]) hx hb dX6_next_91 rfl hl (by decide) rfl (fun ls hl => ?_)
  refine lv_iload_n hx hb dX6_next_92 rfl (lv_at hl 0 rfl) ?_
  refine lv_bipush (v := 97) hx hb dX6_next_93 (by decide) ?_
  refine lv_bipush (v := 122) hx hb dX6_next_95 (by decide) ?_
  have hPc : va_P G.1 vwCl [] H := hP.sub [] rfl
  have hDc : va_D A [] := hD.sub [] (by decide) rfl
  have hFc := va_free (wc := []) hD hS hA [] rfl
  refine va_calli (va_runS (As := [.int 49, .int 97, .int 122]) (rest := []) ⟨hx, hb, hml, hown, hts⟩ (c_X6_in_z43 l G H.size) (va_cwS 3 hts gX6_next_X6_in rfl rfl rfl (by decide +kernel) ⟨Nat.le_of_ble_eq_true rfl, Nat.le_of_ble_eq_true rfl⟩) ⟨gPre_blind, fun U hU hW => gPre_of hU hW hK hPc hDc⟩ rfl rfl hl.1 rfl (lv_room (Nat.le_of_ble_eq_true rfl)) dX6_next_97 ⟨Nat.le_of_ble_eq_true rfl, Nat.le_of_ble_eq_true rfl⟩) hS (fun q _ h => hFc q h) hFc (fun r_12 u t H locs ht hvm w_13 hB hz1 hk1 hS => ?_)
  obtain ⟨hP1, hK1, hD1⟩ := hB
  rw [ht] at hP1
  have hP1 : va_P G.1 vwCl [] H := hP1
  have hD1 : va_D (va_A [] _) [] := hD1
  have w_13 : r_12 = 0 := w_13
  obtain ⟨hP, hD⟩ := va_join (wr := [(h0, .inr (6, [.int 0, .ref kd, .ref mo, .ref st, .int 0, .ref ro, .ref tp, .int 40, .ref cd, .ref sr, .int 0, .int 0, .int 0, .ref ir, .ref ih, .ref ss, .ref sq, .ref ce, .ref lw, .int 27, .int 27, .int 0, .int 0, .ref wo, .ref he, .int 0, .int 0, .int 3, .ref sk, .ref na, .ref kp, .int 0, .int 0, .int 0, .int 0, .ref gb, .ref go, .ref fa, .ref ga, .int 0, .int 0, .ref vo])), (tp, .inl (G.2.1, 160, .inl (gPf tB 40))), (wo, .inl (G.2.1, 96, .inl (gPf tW 96)))]) (w1 := []) hP hD [] [0, 1, 2] rfl rfl (by decide) (by decide) hk1 hFc hP1 hD1
  have hP : va_P G.1 vwCl [(h0, .inr (6, [.int 0, .ref kd, .ref mo, .ref st, .int 0, .ref ro, .ref tp, .int 40, .ref cd, .ref sr, .int 0, .int 0, .int 0, .ref ir, .ref ih, .ref ss, .ref sq, .ref ce, .ref lw, .int 27, .int 27, .int 0, .int 0, .ref wo, .ref he, .int 0, .int 0, .int 3, .ref sk, .ref na, .ref kp, .int 0, .int 0, .int 0, .int 0, .ref gb, .ref go, .ref fa, .ref ga, .int 0, .int 0, .ref vo])), (tp, .inl (G.2.1, 160, .inl (gPf tB 40))), (wo, .inl (G.2.1, 96, .inl (gPf tW 96)))] H := hP
  have hD : va_D A [(h0, .inr (6, [.int 0, .ref kd, .ref mo, .ref st, .int 0, .ref ro, .ref tp, .int 40, .ref cd, .ref sr, .int 0, .int 0, .int 0, .ref ir, .ref ih, .ref ss, .ref sq, .ref ce, .ref lw, .int 27, .int 27, .int 0, .int 0, .ref wo, .ref he, .int 0, .int 0, .int 3, .ref sk, .ref na, .ref kp, .int 0, .int 0, .int 0, .int 0, .ref gb, .ref go, .ref fa, .ref ga, .int 0, .int 0, .ref vo])), (tp, .inl (G.2.1, 160, .inl (gPf tB 40))), (wo, .inl (G.2.1, 96, .inl (gPf tW 96)))] := hD
  have w_13 : r_12 = 0 := w_13
  subst w_13
  refine lv_if_eq (tgt := 217) hx hb dX6_next_100 (by decide) (fun c_14 => ?_) (fun c_14 => ?_)
  rotate_left
  · exact absurd (by decide) c_14
  refine lv_iload_n hx hb dX6_next_217 rfl (lv_at hl 0 rfl) ?_
  refine lv_bipush (v := 48) hx hb dX6_next_218 (by decide) ?_
  refine lv_bipush (v := 57) hx hb dX6_next_220 (by decide) ?_
  have hPc : va_P G.1 vwCl [] H := hP.sub [] rfl
  have hDc : va_D A [] := hD.sub [] (by decide) rfl
  have hFc := va_free (wc := []) hD hS hA [] rfl
  refine va_calli (va_runS (As := [.int 49, .int 48, .int 57]) (rest := []) ⟨hx, hb, hml, hown, hts⟩ (c_X6_in_z44 l G H.size) (va_cwS 3 hts gX6_next_X6_in rfl rfl rfl (by decide +kernel) ⟨Nat.le_of_ble_eq_true rfl, Nat.le_of_ble_eq_true rfl⟩) ⟨gPre_blind, fun U hU hW => gPre_of hU hW hK hPc hDc⟩ rfl rfl hl.1 rfl (lv_room (Nat.le_of_ble_eq_true rfl)) dX6_next_222 ⟨Nat.le_of_ble_eq_true rfl, Nat.le_of_ble_eq_true rfl⟩) hS (fun q _ h => hFc q h) hFc (fun r_15 u t H locs ht hvm w_16 hB hz1 hk1 hS => ?_)
  obtain ⟨hP1, hK1, hD1⟩ := hB
  rw [ht] at hP1
  have hP1 : va_P G.1 vwCl [] H := hP1
  have hD1 : va_D (va_A [] _) [] := hD1
  have w_16 : r_15 = 1 := w_16
  obtain ⟨hP, hD⟩ := va_join (wr := [(h0, .inr (6, [.int 0, .ref kd, .ref mo, .ref st, .int 0, .ref ro, .ref tp, .int 40, .ref cd, .ref sr, .int 0, .int 0, .int 0, .ref ir, .ref ih, .ref ss, .ref sq, .ref ce, .ref lw, .int 27, .int 27, .int 0, .int 0, .ref wo, .ref he, .int 0, .int 0, .int 3, .ref sk, .ref na, .ref kp, .int 0, .int 0, .int 0, .int 0, .ref gb, .ref go, .ref fa, .ref ga, .int 0, .int 0, .ref vo])), (tp, .inl (G.2.1, 160, .inl (gPf tB 40))), (wo, .inl (G.2.1, 96, .inl (gPf tW 96)))]) (w1 := []) hP hD [] [0, 1, 2] rfl rfl (by decide) (by decide) hk1 hFc hP1 hD1
  have hP : va_P G.1 vwCl [(h0, .inr (6, [.int 0, .ref kd, .ref mo, .ref st, .int 0, .ref ro, .ref tp, .int 40, .ref cd, .ref sr, .int 0, .int 0, .int 0, .ref ir, .ref ih, .ref ss, .ref sq, .ref ce, .ref lw, .int 27, .int 27, .int 0, .int 0, .ref wo, .ref he, .int 0, .int 0, .int 3, .ref sk, .ref na, .ref kp, .int 0, .int 0, .int 0, .int 0, .ref gb, .ref go, .ref fa, .ref ga, .int 0, .int 0, .ref vo])), (tp, .inl (G.2.1, 160, .inl (gPf tB 40))), (wo, .inl (G.2.1, 96, .inl (gPf tW 96)))] H := hP
  have hD : va_D A [(h0, .inr (6, [.int 0, .ref kd, .ref mo, .ref st, .int 0, .ref ro, .ref tp, .int 40, .ref cd, .ref sr, .int 0, .int 0, .int 0, .ref ir, .ref ih, .ref ss, .ref sq, .ref ce, .ref lw, .int 27, .int 27, .int 0, .int 0, .ref wo, .ref he, .int 0, .int 0, .int 3, .ref sk, .ref na, .ref kp, .int 0, .int 0, .int 0, .int 0, .ref gb, .ref go, .ref fa, .ref ga, .int 0, .int 0, .ref vo])), (tp, .inl (G.2.1, 160, .inl (gPf tB 40))), (wo, .inl (G.2.1, 96, .inl (gPf tW 96)))] := hD
  have w_16 : r_15 = 1 := w_16
  subst w_16
  refine lv_if_eq (tgt := 326) hx hb dX6_next_225 (by decide) (fun c_17 => ?_) (fun c_17 => ?_)
  · exact absurd c_17 (by decide)
  refine lv_iconst (v := 0) hx hb dX6_next_228 (by decide) ?_
  refine lv_istore_n (lv' := [(2, .int 0), (1, .int 49), (0, .ref h0)]) hx hb dX6_next_229 rfl hl (by decide) rfl (fun ls hl => ?_)
  refine lv_aload_n hx hb dX6_next_230 rfl (lv_at hl 2 rfl) ?_
  refine va_get (D := G.1) (ci := 6) (v := .int 27) (C := RX6) (T := TX6) (N := 42) hx hb hts hiX6 hown hK hP 0 rfl rfl 19 (by decide) kf111 (fun _ h9 => h9) rfl dX6_next_231 ?_
  refine lv_aload_n hx hb dX6_next_234 rfl (lv_at hl 2 rfl) ?_
  refine va_get (D := G.1) (ci := 6) (v := .int 40) (C := RX6) (T := TX6) (N := 42) hx hb hts hiX6 hown hK hP 0 rfl rfl 7 (by decide) kf80 (fun _ h9 => h9) rfl dX6_next_235 ?_
  refine lv_icmp_ge (tgt := 309) hx hb dX6_next_238 (by decide) (fun c_18 => ?_) (fun c_18 => ?_)
  · exact absurd c_18 (by decide)
  refine lv_aload_n hx hb dX6_next_241 rfl (lv_at hl 2 rfl) ?_
  refine va_get (D := G.1) (ci := 6) (v := .ref tp) (C := RX6) (T := TX6) (N := 42) hx hb hts hiX6 hown hK hP 0 rfl rfl 6 (by decide) kf22 (fun _ h9 => h9) rfl dX6_next_242 ?_
  refine lv_aload_n hx hb dX6_next_245 rfl (lv_at hl 2 rfl) ?_
  refine va_get (D := G.1) (ci := 6) (v := .int 27) (C := RX6) (T := TX6) (N := 42) hx hb hts hiX6 hown hK hP 0 rfl rfl 19 (by decide) kf111 (fun _ h9 => h9) rfl dX6_next_246 ?_
  refine va_iald (D := G.1) hx hb hK hP 1 0 rfl rfl (i := 27) (gIn (by decide)) dX6_next_249 ?_
  refine lv_topi (fun v_19 ev_19 => ?_)
  have ev_19 : v_19 = 49 := ev_19.trans (by decide)
  subst ev_19
  refine lv_bipush (v := 48) hx hb dX6_next_250 (by decide) ?_
  refine lv_bipush (v := 57) hx hb dX6_next_252 (by decide) ?_
  have hPc : va_P G.1 vwCl [] H := hP.sub [] rfl
  have hDc : va_D A [] := hD.sub [] (by decide) rfl
  have hFc := va_free (wc := []) hD hS hA [] rfl
  refine va_calli (va_runS (As := [.int 49, .int 48, .int 57]) (rest := []) ⟨hx, hb, hml, hown, hts⟩ (c_X6_in_z44 l G H.size) (va_cwS 3 hts gX6_next_X6_in rfl rfl rfl (by decide +kernel) ⟨Nat.le_of_ble_eq_true rfl, Nat.le_of_ble_eq_true rfl⟩) ⟨gPre_blind, fun U hU hW => gPre_of hU hW hK hPc hDc⟩ rfl rfl hl.1 rfl (lv_room (Nat.le_of_ble_eq_true rfl)) dX6_next_254 ⟨Nat.le_of_ble_eq_true rfl, Nat.le_of_ble_eq_true rfl⟩) hS (fun q _ h => hFc q h) hFc (fun r_20 u t H locs ht hvm w_21 hB hz1 hk1 hS => ?_)
  obtain ⟨hP1, hK1, hD1⟩ := hB
  rw [ht] at hP1
  have hP1 : va_P G.1 vwCl [] H := hP1
  have hD1 : va_D (va_A [] _) [] := hD1
  have w_21 : r_20 = 1 := w_21
  obtain ⟨hP, hD⟩ := va_join (wr := [(h0, .inr (6, [.int 0, .ref kd, .ref mo, .ref st, .int 0, .ref ro, .ref tp, .int 40, .ref cd, .ref sr, .int 0, .int 0, .int 0, .ref ir, .ref ih, .ref ss, .ref sq, .ref ce, .ref lw, .int 27, .int 27, .int 0, .int 0, .ref wo, .ref he, .int 0, .int 0, .int 3, .ref sk, .ref na, .ref kp, .int 0, .int 0, .int 0, .int 0, .ref gb, .ref go, .ref fa, .ref ga, .int 0, .int 0, .ref vo])), (tp, .inl (G.2.1, 160, .inl (gPf tB 40))), (wo, .inl (G.2.1, 96, .inl (gPf tW 96)))]) (w1 := []) hP hD [] [0, 1, 2] rfl rfl (by decide) (by decide) hk1 hFc hP1 hD1
  have hP : va_P G.1 vwCl [(h0, .inr (6, [.int 0, .ref kd, .ref mo, .ref st, .int 0, .ref ro, .ref tp, .int 40, .ref cd, .ref sr, .int 0, .int 0, .int 0, .ref ir, .ref ih, .ref ss, .ref sq, .ref ce, .ref lw, .int 27, .int 27, .int 0, .int 0, .ref wo, .ref he, .int 0, .int 0, .int 3, .ref sk, .ref na, .ref kp, .int 0, .int 0, .int 0, .int 0, .ref gb, .ref go, .ref fa, .ref ga, .int 0, .int 0, .ref vo])), (tp, .inl (G.2.1, 160, .inl (gPf tB 40))), (wo, .inl (G.2.1, 96, .inl (gPf tW 96)))] H := hP
  have hD : va_D A [(h0, .inr (6, [.int 0, .ref kd, .ref mo, .ref st, .int 0, .ref ro, .ref tp, .int 40, .ref cd, .ref sr, .int 0, .int 0, .int 0, .ref ir, .ref ih, .ref ss, .ref sq, .ref ce, .ref lw, .int 27, .int 27, .int 0, .int 0, .ref wo, .ref he, .int 0, .int 0, .int 3, .ref sk, .ref na, .ref kp, .int 0, .int 0, .int 0, .int 0, .ref gb, .ref go, .ref fa, .ref ga, .int 0, .int 0, .ref vo])), (tp, .inl (G.2.1, 160, .inl (gPf tB 40))), (wo, .inl (G.2.1, 96, .inl (gPf tW 96)))] := hD
  have w_21 : r_20 = 1 := w_21
  subst w_21
  refine lv_if_eq (tgt := 309) hx hb dX6_next_257 (by decide) (fun c_22 => ?_) (fun c_22 => ?_)
  · exact absurd c_22 (by decide)
  refine lv_aload_n hx hb dX6_next_260 rfl (lv_at hl 2 rfl) ?_
  refine lv_iload_n hx hb dX6_next_261 rfl (lv_at hl 0 rfl) ?_
  refine lv_iconst (v := 4) hx hb dX6_next_262 (by decide) ?_
  refine lv_icmp_ge (tgt := 289) hx hb dX6_next_263 (by decide) (fun c_23 => ?_) (fun c_23 => ?_)
  · exact absurd c_23 (by decide)
  refine lv_bipush (v := 10) hx hb dX6_next_266 (by decide) ?_
  refine lv_aload_n hx hb dX6_next_268 rfl (lv_at hl 2 rfl) ?_
  refine va_get (D := G.1) (ci := 6) (v := .int 0) (C := RX6) (T := TX6) (N := 42) hx hb hts hiX6 hown hK hP 0 rfl rfl 22 (by decide) kf120 (fun _ h9 => h9) rfl dX6_next_269 ?_
  refine lv_imul hx hb dX6_next_272 ?_
  refine lv_topi (fun v_24 ev_24 => ?_)
  have ev_24 : v_24 = 0 := ev_24.trans (by decide)
  subst ev_24
  refine lv_aload_n hx hb dX6_next_273 rfl (lv_at hl 2 rfl) ?_
  refine va_get (D := G.1) (ci := 6) (v := .ref tp) (C := RX6) (T := TX6) (N := 42) hx hb hts hiX6 hown hK hP 0 rfl rfl 6 (by decide) kf22 (fun _ h9 => h9) rfl dX6_next_274 ?_
  refine lv_aload_n hx hb dX6_next_277 rfl (lv_at hl 2 rfl) ?_
  refine va_get (D := G.1) (ci := 6) (v := .int 27) (C := RX6) (T := TX6) (N := 42) hx hb hts hiX6 hown hK hP 0 rfl rfl 19 (by decide) kf111 (fun _ h9 => h9) rfl dX6_next_278 ?_
  refine va_iald (D := G.1) hx hb hK hP 1 0 rfl rfl (i := 27) (gIn (by decide)) dX6_next_281 ?_
  refine lv_topi (fun v_25 ev_25 => ?_)
  have ev_25 : v_25 = 49 := ev_25.trans (by decide)
  subst ev_25
  refine lv_iadd hx hb dX6_next_282 ?_
  refine lv_topi (fun v_26 ev_26 => ?_)
  have ev_26 : v_26 = 49 := ev_26.trans (by decide)
  subst ev_26
  refine lv_bipush (v := 48) hx hb dX6_next_283 (by decide) ?_
  refine lv_isub hx hb dX6_next_285 ?_
  refine lv_topi (fun v_27 ev_27 => ?_)
  have ev_27 : v_27 = 1 := ev_27.trans (by decide)
  subst ev_27
  refine lv_goto (tgt := 290) hx hb dX6_next_286 (by decide) ?_
  refine va_put (D := G.1) (ci := 6) (v := .int 1) (ty := .int) (C := RX6) (T := TX6) (N := 42) hx hb hts hiX6 tyX6 tyX6_ok nmX6 hown hK hP hD hS 0 rfl rfl 22 (by decide) kf120 (fun _ h9 => h9) rfl (by decide +kernel) rfl rfl (Nat.le_of_ble_eq_true rfl) dX6_next_290 (fun H locs hP hD hS => ?_)
  have hP : va_P G.1 vwCl [(h0, .inr (6, [.int 0, .ref kd, .ref mo, .ref st, .int 0, .ref ro, .ref tp, .int 40, .ref cd, .ref sr, .int 0, .int 0, .int 0, .ref ir, .ref ih, .ref ss, .ref sq, .ref ce, .ref lw, .int 27, .int 27, .int 0, .int 1, .ref wo, .ref he, .int 0, .int 0, .int 3, .ref sk, .ref na, .ref kp, .int 0, .int 0, .int 0, .int 0, .ref gb, .ref go, .ref fa, .ref ga, .int 0, .int 0, .ref vo])), (tp, .inl (G.2.1, 160, .inl (gPf tB 40))), (wo, .inl (G.2.1, 96, .inl (gPf tW 96)))] H := hP
  have hD : va_D A [(h0, .inr (6, [.int 0, .ref kd, .ref mo, .ref st, .int 0, .ref ro, .ref tp, .int 40, .ref cd, .ref sr, .int 0, .int 0, .int 0, .ref ir, .ref ih, .ref ss, .ref sq, .ref ce, .ref lw, .int 27, .int 27, .int 0, .int 1, .ref wo, .ref he, .int 0, .int 0, .int 3, .ref sk, .ref na, .ref kp, .int 0, .int 0, .int 0, .int 0, .ref gb, .ref go, .ref fa, .ref ga, .int 0, .int 0, .ref vo])), (tp, .inl (G.2.1, 160, .inl (gPf tB 40))), (wo, .inl (G.2.1, 96, .inl (gPf tW 96)))] := hD
  refine lv_iinc (v := 1) (lv' := [(2, .int 1), (1, .int 49), (0, .ref h0)]) hx hb dX6_next_293 hl (k := 0) rfl (by decide) (by decide) rfl (fun ls hl => ?_)
  refine lv_aload_n hx hb dX6_next_296 rfl (lv_at hl 2 rfl) ?_
  refine lv_dup hx hb dX6_next_297 rfl ?_
  refine va_get (D := G.1) (ci := 6) (v := .int 27) (C := RX6) (T := TX6) (N := 42) hx hb hts hiX6 hown hK hP 0 rfl rfl 19 (by decide) kf111 (fun _ h9 => h9) rfl dX6_next_298 ?_
  refine lv_iconst (v := 1) hx hb dX6_next_301 (by decide) ?_
  refine lv_iadd hx hb dX6_next_302 ?_
  refine lv_topi (fun v_28 ev_28 => ?_)
  have ev_28 : v_28 = 28 := ev_28.trans (by decide)
  subst ev_28
  refine va_put (D := G.1) (ci := 6) (v := .int 28) (ty := .int) (C := RX6) (T := TX6) (N := 42) hx hb hts hiX6 tyX6 tyX6_ok nmX6 hown hK hP hD hS 0 rfl rfl 19 (by decide) kf111 (fun _ h9 => h9) rfl (by decide +kernel) rfl rfl (Nat.le_of_ble_eq_true rfl) dX6_next_303 (fun H locs hP hD hS => ?_)
  have hP : va_P G.1 vwCl [(h0, .inr (6, [.int 0, .ref kd, .ref mo, .ref st, .int 0, .ref ro, .ref tp, .int 40, .ref cd, .ref sr, .int 0, .int 0, .int 0, .ref ir, .ref ih, .ref ss, .ref sq, .ref ce, .ref lw, .int 28, .int 27, .int 0, .int 1, .ref wo, .ref he, .int 0, .int 0, .int 3, .ref sk, .ref na, .ref kp, .int 0, .int 0, .int 0, .int 0, .ref gb, .ref go, .ref fa, .ref ga, .int 0, .int 0, .ref vo])), (tp, .inl (G.2.1, 160, .inl (gPf tB 40))), (wo, .inl (G.2.1, 96, .inl (gPf tW 96)))] H := hP
  have hD : va_D A [(h0, .inr (6, [.int 0, .ref kd, .ref mo, .ref st, .int 0, .ref ro, .ref tp, .int 40, .ref cd, .ref sr, .int 0, .int 0, .int 0, .ref ir, .ref ih, .ref ss, .ref sq, .ref ce, .ref lw, .int 28, .int 27, .int 0, .int 1, .ref wo, .ref he, .int 0, .int 0, .int 3, .ref sk, .ref na, .ref kp, .int 0, .int 0, .int 0, .int 0, .ref gb, .ref go, .ref fa, .ref ga, .int 0, .int 0, .ref vo])), (tp, .inl (G.2.1, 160, .inl (gPf tB 40))), (wo, .inl (G.2.1, 96, .inl (gPf tW 96)))] := hD
  refine lv_goto (tgt := 230) hx hb dX6_next_306 (by decide) ?_
  refine lv_aload_n hx hb dX6_next_230 rfl (lv_at hl 2 rfl) ?_
  refine va_get (D := G.1) (ci := 6) (v := .int 28) (C := RX6) (T := TX6) (N := 42) hx hb hts hiX6 hown hK hP 0 rfl rfl 19 (by decide) kf111 (fun _ h9 => h9) rfl dX6_next_231 ?_
  refine lv_aload_n hx hb dX6_next_234 rfl (lv_at hl 2 rfl) ?_
  refine va_get (D := G.1) (ci := 6) (v := .int 40) (C := RX6) (T := TX6) (N := 42) hx hb hts hiX6 hown hK hP 0 rfl rfl 7 (by decide) kf80 (fun _ h9 => h9) rfl dX6_next_235 ?_
  refine lv_icmp_ge (tgt := 309) hx hb dX6_next_238 (by decide) (fun c_29 => ?_) (fun c_29 => ?_)
  · exact absurd c_29 (by decide)
  refine lv_aload_n hx hb dX6_next_241 rfl (lv_at hl 2 rfl) ?_
  refine va_get (D := G.1) (ci := 6) (v := .ref tp) (C := RX6) (T := TX6) (N := 42) hx hb hts hiX6 hown hK hP 0 rfl rfl 6 (by decide) kf22 (fun _ h9 => h9) rfl dX6_next_242 ?_
  refine lv_aload_n hx hb dX6_next_245 rfl (lv_at hl 2 rfl) ?_
  refine va_get (D := G.1) (ci := 6) (v := .int 28) (C := RX6) (T := TX6) (N := 42) hx hb hts hiX6 hown hK hP 0 rfl rfl 19 (by decide) kf111 (fun _ h9 => h9) rfl dX6_next_246 ?_
  refine va_iald (D := G.1) hx hb hK hP 1 0 rfl rfl (i := 28) (gIn (by decide)) dX6_next_249 ?_
  refine lv_topi (fun v_30 ev_30 => ?_)
  have ev_30 : v_30 = 32 := ev_30.trans (by decide)
  subst ev_30
  refine lv_bipush (v := 48) hx hb dX6_next_250 (by decide) ?_
  refine lv_bipush (v := 57) hx hb dX6_next_252 (by decide) ?_
  have hPc : va_P G.1 vwCl [] H := hP.sub [] rfl
  have hDc : va_D A [] := hD.sub [] (by decide) rfl
  have hFc := va_free (wc := []) hD hS hA [] rfl
  refine va_calli (va_runS (As := [.int 32, .int 48, .int 57]) (rest := []) ⟨hx, hb, hml, hown, hts⟩ (c_X6_in_z45 l G H.size) (va_cwS 3 hts gX6_next_X6_in rfl rfl rfl (by decide +kernel) ⟨Nat.le_of_ble_eq_true rfl, Nat.le_of_ble_eq_true rfl⟩) ⟨gPre_blind, fun U hU hW => gPre_of hU hW hK hPc hDc⟩ rfl rfl hl.1 rfl (lv_room (Nat.le_of_ble_eq_true rfl)) dX6_next_254 ⟨Nat.le_of_ble_eq_true rfl, Nat.le_of_ble_eq_true rfl⟩) hS (fun q _ h => hFc q h) hFc (fun r_31 u t H locs ht hvm w_32 hB hz1 hk1 hS => ?_)
  obtain ⟨hP1, hK1, hD1⟩ := hB
  rw [ht] at hP1
  have hP1 : va_P G.1 vwCl [] H := hP1
  have hD1 : va_D (va_A [] _) [] := hD1
  have w_32 : r_31 = 0 := w_32
  obtain ⟨hP, hD⟩ := va_join (wr := [(h0, .inr (6, [.int 0, .ref kd, .ref mo, .ref st, .int 0, .ref ro, .ref tp, .int 40, .ref cd, .ref sr, .int 0, .int 0, .int 0, .ref ir, .ref ih, .ref ss, .ref sq, .ref ce, .ref lw, .int 28, .int 27, .int 0, .int 1, .ref wo, .ref he, .int 0, .int 0, .int 3, .ref sk, .ref na, .ref kp, .int 0, .int 0, .int 0, .int 0, .ref gb, .ref go, .ref fa, .ref ga, .int 0, .int 0, .ref vo])), (tp, .inl (G.2.1, 160, .inl (gPf tB 40))), (wo, .inl (G.2.1, 96, .inl (gPf tW 96)))]) (w1 := []) hP hD [] [0, 1, 2] rfl rfl (by decide) (by decide) hk1 hFc hP1 hD1
  have hP : va_P G.1 vwCl [(h0, .inr (6, [.int 0, .ref kd, .ref mo, .ref st, .int 0, .ref ro, .ref tp, .int 40, .ref cd, .ref sr, .int 0, .int 0, .int 0, .ref ir, .ref ih, .ref ss, .ref sq, .ref ce, .ref lw, .int 28, .int 27, .int 0, .int 1, .ref wo, .ref he, .int 0, .int 0, .int 3, .ref sk, .ref na, .ref kp, .int 0, .int 0, .int 0, .int 0, .ref gb, .ref go, .ref fa, .ref ga, .int 0, .int 0, .ref vo])), (tp, .inl (G.2.1, 160, .inl (gPf tB 40))), (wo, .inl (G.2.1, 96, .inl (gPf tW 96)))] H := hP
  have hD : va_D A [(h0, .inr (6, [.int 0, .ref kd, .ref mo, .ref st, .int 0, .ref ro, .ref tp, .int 40, .ref cd, .ref sr, .int 0, .int 0, .int 0, .ref ir, .ref ih, .ref ss, .ref sq, .ref ce, .ref lw, .int 28, .int 27, .int 0, .int 1, .ref wo, .ref he, .int 0, .int 0, .int 3, .ref sk, .ref na, .ref kp, .int 0, .int 0, .int 0, .int 0, .ref gb, .ref go, .ref fa, .ref ga, .int 0, .int 0, .ref vo])), (tp, .inl (G.2.1, 160, .inl (gPf tB 40))), (wo, .inl (G.2.1, 96, .inl (gPf tW 96)))] := hD
  have w_32 : r_31 = 0 := w_32
  subst w_32
  refine lv_if_eq (tgt := 309) hx hb dX6_next_257 (by decide) (fun c_33 => ?_) (fun c_33 => ?_)
  rotate_left
  · exact absurd (by decide) c_33
  refine lv_aload_n hx hb dX6_next_309 rfl (lv_at hl 2 rfl) ?_
  refine lv_iload_n hx hb dX6_next_310 rfl (lv_at hl 0 rfl) ?_
  refine lv_iconst (v := 4) hx hb dX6_next_311 (by decide) ?_
  refine lv_icmp_le (tgt := 319) hx hb dX6_next_312 (by decide) (fun c_34 => ?_) (fun c_34 => ?_)
  rotate_left
  · exact absurd (by decide) c_34
  refine lv_iconst (v := 1) hx hb dX6_next_319 (by decide) ?_
  refine va_put (D := G.1) (ci := 6) (v := .int 1) (ty := .int) (C := RX6) (T := TX6) (N := 42) hx hb hts hiX6 tyX6 tyX6_ok nmX6 hown hK hP hD hS 0 rfl rfl 21 (by decide) kf117 (fun _ h9 => h9) rfl (by decide +kernel) rfl rfl (Nat.le_of_ble_eq_true rfl) dX6_next_320 (fun H locs hP hD hS => ?_)
  have hP : va_P G.1 vwCl [(h0, .inr (6, [.int 0, .ref kd, .ref mo, .ref st, .int 0, .ref ro, .ref tp, .int 40, .ref cd, .ref sr, .int 0, .int 0, .int 0, .ref ir, .ref ih, .ref ss, .ref sq, .ref ce, .ref lw, .int 28, .int 27, .int 1, .int 1, .ref wo, .ref he, .int 0, .int 0, .int 3, .ref sk, .ref na, .ref kp, .int 0, .int 0, .int 0, .int 0, .ref gb, .ref go, .ref fa, .ref ga, .int 0, .int 0, .ref vo])), (tp, .inl (G.2.1, 160, .inl (gPf tB 40))), (wo, .inl (G.2.1, 96, .inl (gPf tW 96)))] H := hP
  have hD : va_D A [(h0, .inr (6, [.int 0, .ref kd, .ref mo, .ref st, .int 0, .ref ro, .ref tp, .int 40, .ref cd, .ref sr, .int 0, .int 0, .int 0, .ref ir, .ref ih, .ref ss, .ref sq, .ref ce, .ref lw, .int 28, .int 27, .int 1, .int 1, .ref wo, .ref he, .int 0, .int 0, .int 3, .ref sk, .ref na, .ref kp, .int 0, .int 0, .int 0, .int 0, .ref gb, .ref go, .ref fa, .ref ga, .int 0, .int 0, .ref vo])), (tp, .inl (G.2.1, 160, .inl (gPf tB 40))), (wo, .inl (G.2.1, 96, .inl (gPf tW 96)))] := hD
  refine lv_goto (tgt := 403) hx hb dX6_next_323 (by decide) ?_
  have hP9 := hP.sub (ws' := [(h0, .inr (6, [.int 0, .ref kd, .ref mo, .ref st, .int 0, .ref ro, .ref tp, .int 40, .ref cd, .ref sr, .int 0, .int 0, .int 0, .ref ir, .ref ih, .ref ss, .ref sq, .ref ce, .ref lw, .int 28, .int 27, .int 1, .int 1, .ref wo, .ref he, .int 0, .int 0, .int 3, .ref sk, .ref na, .ref kp, .int 0, .int 0, .int 0, .int 0, .ref gb, .ref go, .ref fa, .ref ga, .int 0, .int 0, .ref vo])), (tp, .inl (G.2.1, 160, .inl (gPf tB 40))), (wo, .inl (G.2.1, 96, .inl (gPf tW 96)))]) [0, 1, 2] rfl
  have hD9 := hD.sub (ws' := [(h0, .inr (6, [.int 0, .ref kd, .ref mo, .ref st, .int 0, .ref ro, .ref tp, .int 40, .ref cd, .ref sr, .int 0, .int 0, .int 0, .ref ir, .ref ih, .ref ss, .ref sq, .ref ce, .ref lw, .int 28, .int 27, .int 1, .int 1, .ref wo, .ref he, .int 0, .int 0, .int 3, .ref sk, .ref na, .ref kp, .int 0, .int 0, .int 0, .int 0, .ref gb, .ref go, .ref fa, .ref ga, .int 0, .int 0, .ref vo])), (tp, .inl (G.2.1, 160, .inl (gPf tB 40))), (wo, .inl (G.2.1, 96, .inl (gPf tW 96)))]) [0, 1, 2] (by decide) rfl
  have hpost : (fun (u : Unit) => match u with | _ => True) () := by first | rfl | trivial
  exact W.vret hx hb hr (fun t ht hW => ⟨⟨(), rfl, hpost, by rw [ht]; exact hP9, va_K.moved hW.alike hK, hD9⟩, hS.F ht⟩) hS.2.2 dX6_next_403
abbrev q_X6_puts_z46 (G : gG) (h0 cd kd mo st ro tp sr ir ih ss sq ce lw wo he sk na kp gb go fa ga vo : Nat) (A : Nat → Prop) : Array Value → State → Outcome → State → Prop := va_Qv (fun (u : Unit) => match u with | _ => True) (fun (u : Unit) t => match u with | _ => va_P G.1 vwCl [(cd, .inl (G.2.1, 1200, .inl (upd (upd (upd (upd (fun _ => 0) 0 0) 1 1) 2 17) 3 100001))), (h0, .inr (6, [.int 0, .ref kd, .ref mo, .ref st, .int 0, .ref ro, .ref tp, .int 40, .ref cd, .ref sr, .int 0, .int 0, .int 0, .ref ir, .ref ih, .ref ss, .ref sq, .ref ce, .ref lw, .int 28, .int 27, .int 1, .int 1, .ref wo, .ref he, .int 0, .int 0, .int 4, .ref sk, .ref na, .ref kp, .int 0, .int 0, .int 0, .int 0, .ref gb, .ref go, .ref fa, .ref ga, .int 0, .int 0, .ref vo]))] t.heap ∧ gK G t ∧ va_D A [(cd, .inl (G.2.1, 1200, .inl (upd (upd (upd (upd (fun _ => 0) 0 0) 1 1) 2 17) 3 100001))), (h0, .inr (6, [.int 0, .ref kd, .ref mo, .ref st, .int 0, .ref ro, .ref tp, .int 40, .ref cd, .ref sr, .int 0, .int 0, .int 0, .ref ir, .ref ih, .ref ss, .ref sq, .ref ce, .ref lw, .int 28, .int 27, .int 1, .int 1, .ref wo, .ref he, .int 0, .int 0, .int 4, .ref sk, .ref na, .ref kp, .int 0, .int 0, .int 0, .int 0, .ref gb, .ref go, .ref fa, .ref ga, .int 0, .int 0, .ref vo]))]) A
set_option maxHeartbeats 4000000 in
set_option maxRecDepth 100000 in
theorem c_X6_puts_z46 (l : Launch) (G : gG) (h0 cd kd mo st ro tp sr ir ih ss sq ce lw wo he sk na kp gb go fa ga vo : Nat) (sz : Nat) : Met l yX6_puts wsX6_puts ({ frames := 0, cells := 0, slots := 0, locals := 0 }) (gPre G [.ref h0, .int 100001] [(cd, .inl (G.2.1, 1200, .inl (upd (upd (upd (fun _ => 0) 0 0) 1 1) 2 17))), (h0, .inr (6, [.int 0, .ref kd, .ref mo, .ref st, .int 0, .ref ro, .ref tp, .int 40, .ref cd, .ref sr, .int 0, .int 0, .int 0, .ref ir, .ref ih, .ref ss, .ref sq, .ref ce, .ref lw, .int 28, .int 27, .int 1, .int 1, .ref wo, .ref he, .int 0, .int 0, .int 3, .ref sk, .ref na, .ref kp, .int 0, .int 0, .int 0, .int 0, .ref gb, .ref go, .ref fa, .ref ga, .int 0, .int 0, .ref vo]))] sz) (q_X6_puts_z46 G h0 cd kd mo st ro tp sr ir ih ss sq ce lw wo he sk na kp gb go fa ga vo (va_A [(cd, .inl (G.2.1, 1200, .inl (upd (upd (upd (fun _ => 0) 0 0) 1 1) 2 17))), (h0, .inr (6, [.int 0, .ref kd, .ref mo, .ref st, .int 0, .ref ro, .ref tp, .int 40, .ref cd, .ref sr, .int 0, .int 0, .int 0, .ref ir, .ref ih, .ref ss, .ref sq, .ref ce, .ref lw, .int 28, .int 27, .int 1, .int 1, .ref wo, .ref he, .int 0, .int 0, .int 3, .ref sk, .ref na, .ref kp, .int 0, .int 0, .int 0, .int 0, .ref gb, .ref go, .ref fa, .ref ga, .int 0, .int 0, .ref vo]))] sz)) 0 0 (va_A [(cd, .inl (G.2.1, 1200, .inl (upd (upd (upd (fun _ => 0) 0 0) 1 1) 2 17))), (h0, .inr (6, [.int 0, .ref kd, .ref mo, .ref st, .int 0, .ref ro, .ref tp, .int 40, .ref cd, .ref sr, .int 0, .int 0, .int 0, .ref ir, .ref ih, .ref ss, .ref sq, .ref ce, .ref lw, .int 28, .int 27, .int 1, .int 1, .ref wo, .ref he, .int 0, .int 0, .int 3, .ref sk, .ref na, .ref kp, .int 0, .int 0, .int 0, .int 0, .ref gb, .ref go, .ref fa, .ref ga, .int 0, .int 0, .ref vo]))] sz) := by
  refine Met.ofW (cc := cX6_puts) (maxL := 2) (ret := none) (by decide) rfl ?_
  intro p e s m args below meth c s₁ B hml hv
  obtain ⟨rfl, hsz, hP, hK, hD0⟩ := hv
  have hx := B.exec
  have hb := B.bytes
  have hr := B.returns
  have hts := atoms_spec (ws := wsX6_puts) B.pre
  have hown : s.vm.findClass RX6 = some m.cls := findClass_of_methodNamed B.named
  have hlocks := B.notSynchronized
  subst hsz
  have hD := hD0.self (sz := s.heap.size)
  generalize hAe : va_A [(cd, .inl (G.2.1, 1200, .inl (upd (upd (upd (fun _ => 0) 0 0) 1 1) 2 17))), (h0, .inr (6, [.int 0, .ref kd, .ref mo, .ref st, .int 0, .ref ro, .ref tp, .int 40, .ref cd, .ref sr, .int 0, .int 0, .int 0, .ref ir, .ref ih, .ref ss, .ref sq, .ref ce, .ref lw, .int 28, .int 27, .int 1, .int 1, .ref wo, .ref he, .int 0, .int 0, .int 3, .ref sk, .ref na, .ref kp, .int 0, .int 0, .int 0, .int 0, .ref gb, .ref go, .ref fa, .ref ga, .int 0, .int 0, .ref vo]))] s.heap.size = A at hD ⊢
  have hA : ∀ q : Nat, s.heap.size ≤ q → A q := fun q h => by rw [← hAe]; exact Or.inr h
  have hS : va_S A s.heap s.heap [] := va_S.rf
  have hP : va_P G.1 vwCl [(cd, .inl (G.2.1, 1200, .inl (upd (upd (upd (fun _ => 0) 0 0) 1 1) 2 17))), (h0, .inr (6, [.int 0, .ref kd, .ref mo, .ref st, .int 0, .ref ro, .ref tp, .int 40, .ref cd, .ref sr, .int 0, .int 0, .int 0, .ref ir, .ref ih, .ref ss, .ref sq, .ref ce, .ref lw, .int 28, .int 27, .int 1, .int 1, .ref wo, .ref he, .int 0, .int 0, .int 3, .ref sk, .ref na, .ref kp, .int 0, .int 0, .int 0, .int 0, .ref gb, .ref go, .ref fa, .ref ga, .int 0, .int 0, .ref vo]))] s.heap := hP
  have hD : va_D A [(cd, .inl (G.2.1, 1200, .inl (upd (upd (upd (fun _ => 0) 0 0) 1 1) 2 17))), (h0, .inr (6, [.int 0, .ref kd, .ref mo, .ref st, .int 0, .ref ro, .ref tp, .int 40, .ref cd, .ref sr, .int 0, .int 0, .int 0, .ref ir, .ref ih, .ref ss, .ref sq, .ref ce, .ref lw, .int 28, .int 27, .int 1, .int 1, .ref wo, .ref he, .int 0, .int 0, .int 3, .ref sk, .ref na, .ref kp, .int 0, .int 0, .int 0, .int 0, .ref gb, .ref go, .ref fa, .ref ga, .int 0, .int 0, .ref vo]))] := hD
  have hl := lv_entry ([.ref h0, .int 100001]) (n := 2) (Nat.le_of_ble_eq_true rfl)
  rw [lg_entry_eq]
  generalize (lg_sl ([.ref h0, .int 100001]) ++ List.replicate (2 - (lg_sl ([.ref h0, .int 100001])).length) Slot.unset).toArray = ls at hl ⊢
  have hl : lv_has ls 2 [(0, .ref h0), (1, .int 100001)] := hl
  have kf25 := hts (.fieldLink RX6 25 "PebbleInShoeModel" "codes" "[I") (by decide +kernel)
  have hiX6 := (by decide +kernel : ∀ w ∈ wsX60, w ∈ wsX6_puts)
  have kf98 := hts (.fieldLink RX6 98 "PebbleInShoeModel" "texts" "I") (by decide +kernel)
  have kf127 := hts (.fieldLink RX6 127 "PebbleInShoeModel" "out" "I") (by decide +kernel)
  refine lv_aload_n hx hb dX6_puts_0 rfl (lv_at hl 0 rfl) ?_
  refine va_get (D := G.1) (ci := 6) (v := .ref cd) (C := RX6) (T := TX6) (N := 42) hx hb hts hiX6 hown hK hP 1 rfl rfl 8 (by decide) kf25 (fun _ h9 => h9) rfl dX6_puts_1 ?_
  refine lv_sipush (v := 200) hx hb dX6_puts_4 (by decide) ?_
  refine lv_aload_n hx hb dX6_puts_7 rfl (lv_at hl 0 rfl) ?_
  refine va_get (D := G.1) (ci := 6) (v := .int 0) (C := RX6) (T := TX6) (N := 42) hx hb hts hiX6 hown hK hP 1 rfl rfl 10 (by decide) kf98 (fun _ h9 => h9) rfl dX6_puts_8 ?_
  refine lv_imul hx hb dX6_puts_11 ?_
  refine lv_topi (fun v_1 ev_1 => ?_)
  have ev_1 : v_1 = 0 := ev_1.trans (by decide)
  subst ev_1
  refine lv_aload_n hx hb dX6_puts_12 rfl (lv_at hl 0 rfl) ?_
  refine va_get (D := G.1) (ci := 6) (v := .int 3) (C := RX6) (T := TX6) (N := 42) hx hb hts hiX6 hown hK hP 1 rfl rfl 27 (by decide) kf127 (fun _ h9 => h9) rfl dX6_puts_13 ?_
  refine lv_iadd hx hb dX6_puts_16 ?_
  refine lv_topi (fun v_2 ev_2 => ?_)
  have ev_2 : v_2 = 3 := ev_2.trans (by decide)
  subst ev_2
  refine lv_iload_n hx hb dX6_puts_17 rfl (lv_at hl 1 rfl) ?_
  refine va_iast (D := G.1) hx hb hK hP hD hS 0 0 rfl rfl (i := 3) (x := 100001) (gIn (by decide)) dX6_puts_18 (fun H locs hP hD hS => ?_)
  have hP : va_P G.1 vwCl [(cd, .inl (G.2.1, 1200, .inl (upd (upd (upd (upd (fun _ => 0) 0 0) 1 1) 2 17) 3 100001))), (h0, .inr (6, [.int 0, .ref kd, .ref mo, .ref st, .int 0, .ref ro, .ref tp, .int 40, .ref cd, .ref sr, .int 0, .int 0, .int 0, .ref ir, .ref ih, .ref ss, .ref sq, .ref ce, .ref lw, .int 28, .int 27, .int 1, .int 1, .ref wo, .ref he, .int 0, .int 0, .int 3, .ref sk, .ref na, .ref kp, .int 0, .int 0, .int 0, .int 0, .ref gb, .ref go, .ref fa, .ref ga, .int 0, .int 0, .ref vo]))] H := hP
  have hD : va_D A [(cd, .inl (G.2.1, 1200, .inl (upd (upd (upd (upd (fun _ => 0) 0 0) 1 1) 2 17) 3 100001))), (h0, .inr (6, [.int 0, .ref kd, .ref mo, .ref st, .int 0, .ref ro, .ref tp, .int 40, .ref cd, .ref sr, .int 0, .int 0, .int 0, .ref ir, .ref ih, .ref ss, .ref sq, .ref ce, .ref lw, .int 28, .int 27, .int 1, .int 1, .ref wo, .ref he, .int 0, .int 0, .int 3, .ref sk, .ref na, .ref kp, .int 0, .int 0, .int 0, .int 0, .ref gb, .ref go, .ref fa, .ref ga, .int 0, .int 0, .ref vo]))] := hD
  refine lv_aload_n hx hb dX6_puts_19 rfl (lv_at hl 0 rfl) ?_
  refine lv_dup hx hb dX6_puts_20 rfl ?_
  refine va_get (D := G.1) (ci := 6) (v := .int 3) (C := RX6) (T := TX6) (N := 42) hx hb hts hiX6 hown hK hP 1 rfl rfl 27 (by decide) kf127 (fun _ h9 => h9) rfl dX6_puts_21 ?_
  refine lv_iconst (v := 1) hx hb dX6_puts_24 (by decide) ?_
  refine lv_iadd hx hb dX6_puts_25 ?_
  refine lv_topi (fun v_3 ev_3 => ?_)
  have ev_3 : v_3 = 4 := ev_3.trans (by decide)
  subst ev_3
  refine va_put (D := G.1) (ci := 6) (v := .int 4) (ty := .int) (C := RX6) (T := TX6) (N := 42) hx hb hts hiX6 tyX6 tyX6_ok nmX6 hown hK hP hD hS 1 rfl rfl 27 (by decide) kf127 (fun _ h9 => h9) rfl (by decide +kernel) rfl rfl (Nat.le_of_ble_eq_true rfl) dX6_puts_26 (fun H locs hP hD hS => ?_)
  have hP : va_P G.1 vwCl [(cd, .inl (G.2.1, 1200, .inl (upd (upd (upd (upd (fun _ => 0) 0 0) 1 1) 2 17) 3 100001))), (h0, .inr (6, [.int 0, .ref kd, .ref mo, .ref st, .int 0, .ref ro, .ref tp, .int 40, .ref cd, .ref sr, .int 0, .int 0, .int 0, .ref ir, .ref ih, .ref ss, .ref sq, .ref ce, .ref lw, .int 28, .int 27, .int 1, .int 1, .ref wo, .ref he, .int 0, .int 0, .int 4, .ref sk, .ref na, .ref kp, .int 0, .int 0, .int 0, .int 0, .ref gb, .ref go, .ref fa, .ref ga, .int 0, .int 0, .ref vo]))] H := hP
  have hD : va_D A [(cd, .inl (G.2.1, 1200, .inl (upd (upd (upd (upd (fun _ => 0) 0 0) 1 1) 2 17) 3 100001))), (h0, .inr (6, [.int 0, .ref kd, .ref mo, .ref st, .int 0, .ref ro, .ref tp, .int 40, .ref cd, .ref sr, .int 0, .int 0, .int 0, .ref ir, .ref ih, .ref ss, .ref sq, .ref ce, .ref lw, .int 28, .int 27, .int 1, .int 1, .ref wo, .ref he, .int 0, .int 0, .int 4, .ref sk, .ref na, .ref kp, .int 0, .int 0, .int 0, .int 0, .ref gb, .ref go, .ref fa, .ref ga, .int 0, .int 0, .ref vo]))] := hD
  have hP9 := hP.sub (ws' := [(cd, .inl (G.2.1, 1200, .inl (upd (upd (upd (upd (fun _ => 0) 0 0) 1 1) 2 17) 3 100001))), (h0, .inr (6, [.int 0, .ref kd, .ref mo, .ref st, .int 0, .ref ro, .ref tp, .int 40, .ref cd, .ref sr, .int 0, .int 0, .int 0, .ref ir, .ref ih, .ref ss, .ref sq, .ref ce, .ref lw, .int 28, .int 27, .int 1, .int 1, .ref wo, .ref he, .int 0, .int 0, .int 4, .ref sk, .ref na, .ref kp, .int 0, .int 0, .int 0, .int 0, .ref gb, .ref go, .ref fa, .ref ga, .int 0, .int 0, .ref vo]))]) [0, 1] rfl
  have hD9 := hD.sub (ws' := [(cd, .inl (G.2.1, 1200, .inl (upd (upd (upd (upd (fun _ => 0) 0 0) 1 1) 2 17) 3 100001))), (h0, .inr (6, [.int 0, .ref kd, .ref mo, .ref st, .int 0, .ref ro, .ref tp, .int 40, .ref cd, .ref sr, .int 0, .int 0, .int 0, .ref ir, .ref ih, .ref ss, .ref sq, .ref ce, .ref lw, .int 28, .int 27, .int 1, .int 1, .ref wo, .ref he, .int 0, .int 0, .int 4, .ref sk, .ref na, .ref kp, .int 0, .int 0, .int 0, .int 0, .ref gb, .ref go, .ref fa, .ref ga, .int 0, .int 0, .ref vo]))]) [0, 1] (by decide) rfl
  have hpost : (fun (u : Unit) => match u with | _ => True) () := by first | rfl | trivial
  exact W.vret hx hb hr (fun t ht hW => ⟨⟨(), rfl, hpost, by rw [ht]; exact hP9, va_K.moved hW.alike hK, hD9⟩, hS.F ht⟩) hS.2.2 dX6_puts_29
abbrev q_X6_unwinds_z47 (G : gG) (h0 he cd kd mo st ro tp sr ir ih ss sq ce lw wo sk na kp gb go fa ga vo : Nat) (A : Nat → Prop) : Array Value → State → Outcome → State → Prop := va_Qv (fun (u : Unit) => match u with | _ => True) (fun (u : Unit) t => match u with | _ => va_P G.1 vwCl [(he, .inl (G.2.1, 200, .inl (upd (fun _ => 0) 0 17))), (cd, .inl (G.2.1, 1200, .inl (upd (upd (upd (upd (fun _ => 0) 0 0) 1 1) 2 17) 3 100001))), (h0, .inr (6, [.int 0, .ref kd, .ref mo, .ref st, .int 0, .ref ro, .ref tp, .int 40, .ref cd, .ref sr, .int 0, .int 0, .int 0, .ref ir, .ref ih, .ref ss, .ref sq, .ref ce, .ref lw, .int 28, .int 27, .int 1, .int 1, .ref wo, .ref he, .int 0, .int 0, .int 4, .ref sk, .ref na, .ref kp, .int 0, .int 0, .int 0, .int 0, .ref gb, .ref go, .ref fa, .ref ga, .int 0, .int 0, .ref vo]))] t.heap ∧ gK G t ∧ va_D A [(he, .inl (G.2.1, 200, .inl (upd (fun _ => 0) 0 17))), (cd, .inl (G.2.1, 1200, .inl (upd (upd (upd (upd (fun _ => 0) 0 0) 1 1) 2 17) 3 100001))), (h0, .inr (6, [.int 0, .ref kd, .ref mo, .ref st, .int 0, .ref ro, .ref tp, .int 40, .ref cd, .ref sr, .int 0, .int 0, .int 0, .ref ir, .ref ih, .ref ss, .ref sq, .ref ce, .ref lw, .int 28, .int 27, .int 1, .int 1, .ref wo, .ref he, .int 0, .int 0, .int 4, .ref sk, .ref na, .ref kp, .int 0, .int 0, .int 0, .int 0, .ref gb, .ref go, .ref fa, .ref ga, .int 0, .int 0, .ref vo]))]) A
set_option maxHeartbeats 4000000 in
set_option maxRecDepth 100000 in
theorem c_X6_unwinds_z47 (l : Launch) (G : gG) (h0 he cd kd mo st ro tp sr ir ih ss sq ce lw wo sk na kp gb go fa ga vo : Nat) (sz : Nat) : Met l yX6_unwinds wsX6_unwinds ({ frames := 0, cells := 0, slots := 0, locals := 0 }) (gPre G [.ref h0, .int 7] [(he, .inl (G.2.1, 200, .inl (upd (fun _ => 0) 0 17))), (cd, .inl (G.2.1, 1200, .inl (upd (upd (upd (upd (fun _ => 0) 0 0) 1 1) 2 17) 3 100001))), (h0, .inr (6, [.int 0, .ref kd, .ref mo, .ref st, .int 0, .ref ro, .ref tp, .int 40, .ref cd, .ref sr, .int 0, .int 0, .int 0, .ref ir, .ref ih, .ref ss, .ref sq, .ref ce, .ref lw, .int 28, .int 27, .int 1, .int 1, .ref wo, .ref he, .int 0, .int 0, .int 4, .ref sk, .ref na, .ref kp, .int 0, .int 0, .int 0, .int 0, .ref gb, .ref go, .ref fa, .ref ga, .int 0, .int 0, .ref vo]))] sz) (q_X6_unwinds_z47 G h0 he cd kd mo st ro tp sr ir ih ss sq ce lw wo sk na kp gb go fa ga vo (va_A [(he, .inl (G.2.1, 200, .inl (upd (fun _ => 0) 0 17))), (cd, .inl (G.2.1, 1200, .inl (upd (upd (upd (upd (fun _ => 0) 0 0) 1 1) 2 17) 3 100001))), (h0, .inr (6, [.int 0, .ref kd, .ref mo, .ref st, .int 0, .ref ro, .ref tp, .int 40, .ref cd, .ref sr, .int 0, .int 0, .int 0, .ref ir, .ref ih, .ref ss, .ref sq, .ref ce, .ref lw, .int 28, .int 27, .int 1, .int 1, .ref wo, .ref he, .int 0, .int 0, .int 4, .ref sk, .ref na, .ref kp, .int 0, .int 0, .int 0, .int 0, .ref gb, .ref go, .ref fa, .ref ga, .int 0, .int 0, .ref vo]))] sz)) 0 0 (va_A [(he, .inl (G.2.1, 200, .inl (upd (fun _ => 0) 0 17))), (cd, .inl (G.2.1, 1200, .inl (upd (upd (upd (upd (fun _ => 0) 0 0) 1 1) 2 17) 3 100001))), (h0, .inr (6, [.int 0, .ref kd, .ref mo, .ref st, .int 0, .ref ro, .ref tp, .int 40, .ref cd, .ref sr, .int 0, .int 0, .int 0, .ref ir, .ref ih, .ref ss, .ref sq, .ref ce, .ref lw, .int 28, .int 27, .int 1, .int 1, .ref wo, .ref he, .int 0, .int 0, .int 4, .ref sk, .ref na, .ref kp, .int 0, .int 0, .int 0, .int 0, .ref gb, .ref go, .ref fa, .ref ga, .int 0, .int 0, .ref vo]))] sz) := by
  refine Met.ofW (cc := cX6_unwinds) (maxL := 3) (ret := none) (by decide) rfl ?_
  intro p e s m args below meth c s₁ B hml hv
  obtain ⟨rfl, hsz, hP, hK, hD0⟩ := hv
  have hx := B.exec
  have hb := B.bytes
  have hr := B.returns
  have hts := atoms_spec (ws := wsX6_unwinds) B.pre
  have hown : s.vm.findClass RX6 = some m.cls := findClass_of_methodNamed B.named
  have hlocks := B.notSynchronized
  subst hsz
  have hD := hD0.self (sz := s.heap.size)
  generalize hAe : va_A [(he, .inl (G.2.1, 200, .inl (upd (fun _ => 0) 0 17))), (cd, .inl (G.2.1, 1200, .inl (upd (upd (upd (upd (fun _ => 0) 0 0) 1 1) 2 17) 3 100001))), (h0, .inr (6, [.int 0, .ref kd, .ref mo, .ref st, .int 0, .ref ro, .ref tp, .int 40, .ref cd, .ref sr, .int 0, .int 0, .int 0, .ref ir, .ref ih, .ref ss, .ref sq, .ref ce, .ref lw, .int 28, .int 27, .int 1, .int 1, .ref wo, .ref he, .int 0, .int 0, .int 4, .ref sk, .ref na, .ref kp, .int 0, .int 0, .int 0, .int 0, .ref gb, .ref go, .ref fa, .ref ga, .int 0, .int 0, .ref vo]))] s.heap.size = A at hD ⊢
  have hA : ∀ q : Nat, s.heap.size ≤ q → A q := fun q h => by rw [← hAe]; exact Or.inr h
  have hS : va_S A s.heap s.heap [] := va_S.rf
  have hP : va_P G.1 vwCl [(he, .inl (G.2.1, 200, .inl (upd (fun _ => 0) 0 17))), (cd, .inl (G.2.1, 1200, .inl (upd (upd (upd (upd (fun _ => 0) 0 0) 1 1) 2 17) 3 100001))), (h0, .inr (6, [.int 0, .ref kd, .ref mo, .ref st, .int 0, .ref ro, .ref tp, .int 40, .ref cd, .ref sr, .int 0, .int 0, .int 0, .ref ir, .ref ih, .ref ss, .ref sq, .ref ce, .ref lw, .int 28, .int 27, .int 1, .int 1, .ref wo, .ref he, .int 0, .int 0, .int 4, .ref sk, .ref na, .ref kp, .int 0, .int 0, .int 0, .int 0, .ref gb, .ref go, .ref fa, .ref ga, .int 0, .int 0, .ref vo]))] s.heap := hP
  have hD : va_D A [(he, .inl (G.2.1, 200, .inl (upd (fun _ => 0) 0 17))), (cd, .inl (G.2.1, 1200, .inl (upd (upd (upd (upd (fun _ => 0) 0 0) 1 1) 2 17) 3 100001))), (h0, .inr (6, [.int 0, .ref kd, .ref mo, .ref st, .int 0, .ref ro, .ref tp, .int 40, .ref cd, .ref sr, .int 0, .int 0, .int 0, .ref ir, .ref ih, .ref ss, .ref sq, .ref ce, .ref lw, .int 28, .int 27, .int 1, .int 1, .ref wo, .ref he, .int 0, .int 0, .int 4, .ref sk, .ref na, .ref kp, .int 0, .int 0, .int 0, .int 0, .ref gb, .ref go, .ref fa, .ref ga, .int 0, .int 0, .ref vo]))] := hD
  have hl := lv_entry ([.ref h0, .int 7]) (n := 3) (Nat.le_of_ble_eq_true rfl)
  rw [lg_entry_eq]
  generalize (lg_sl ([.ref h0, .int 7]) ++ List.replicate (3 - (lg_sl ([.ref h0, .int 7])).length) Slot.unset).toArray = ls at hl ⊢
  have hl : lv_has ls 3 [(0, .ref h0), (1, .int 7)] := hl
  have kf130 := hts (.fieldLink RX6 130 "PebbleInShoeModel" "heldMany" "I") (by decide +kernel)
  have hiX6 := (by decide +kernel : ∀ w ∈ wsX60, w ∈ wsX6_unwinds)
  refine lv_aload_n hx hb dX6_unwinds_0 rfl (lv_at hl 0 rfl) ?_
  refine va_get (D := G.1) (ci := 6) (v := .int 0) (C := RX6) (T := TX6) (N := 42) hx hb hts hiX6 hown hK hP 2 rfl rfl 25 (by decide) kf130 (fun _ h9 => h9) rfl dX6_unwinds_1 ?_
  refine lv_if_le (tgt := 79) hx hb dX6_unwinds_4 (by decide) (fun c_1 => ?_) (fun c_1 => ?_)
  rotate_left
  · exact absurd (by decide) c_1
  have hP9 := hP.sub (ws' := [(he, .inl (G.2.1, 200, .inl (upd (fun _ => 0) 0 17))), (cd, .inl (G.2.1, 1200, .inl (upd (upd (upd (upd (fun _ => 0) 0 0) 1 1) 2 17) 3 100001))), (h0, .inr (6, [.int 0, .ref kd, .ref mo, .ref st, .int 0, .ref ro, .ref tp, .int 40, .ref cd, .ref sr, .int 0, .int 0, .int 0, .ref ir, .ref ih, .ref ss, .ref sq, .ref ce, .ref lw, .int 28, .int 27, .int 1, .int 1, .ref wo, .ref he, .int 0, .int 0, .int 4, .ref sk, .ref na, .ref kp, .int 0, .int 0, .int 0, .int 0, .ref gb, .ref go, .ref fa, .ref ga, .int 0, .int 0, .ref vo]))]) [0, 1, 2] rfl
  have hD9 := hD.sub (ws' := [(he, .inl (G.2.1, 200, .inl (upd (fun _ => 0) 0 17))), (cd, .inl (G.2.1, 1200, .inl (upd (upd (upd (upd (fun _ => 0) 0 0) 1 1) 2 17) 3 100001))), (h0, .inr (6, [.int 0, .ref kd, .ref mo, .ref st, .int 0, .ref ro, .ref tp, .int 40, .ref cd, .ref sr, .int 0, .int 0, .int 0, .ref ir, .ref ih, .ref ss, .ref sq, .ref ce, .ref lw, .int 28, .int 27, .int 1, .int 1, .ref wo, .ref he, .int 0, .int 0, .int 4, .ref sk, .ref na, .ref kp, .int 0, .int 0, .int 0, .int 0, .ref gb, .ref go, .ref fa, .ref ga, .int 0, .int 0, .ref vo]))]) [0, 1, 2] (by decide) rfl
  have hpost : (fun (u : Unit) => match u with | _ => True) () := by first | rfl | trivial
  exact W.vret hx hb hr (fun t ht hW => ⟨⟨(), rfl, hpost, by rw [ht]; exact hP9, va_K.moved hW.alike hK, hD9⟩, hS.F ht⟩) hS.2.2 dX6_unwinds_79
abbrev q_X6_next_z48 (G : gG) (h0 tp wo kd mo st ro cd sr ir ih ss sq ce lw he sk na kp gb go fa ga vo : Nat) (A : Nat → Prop) : Array Value → State → Outcome → State → Prop := va_Qv (fun (u : Unit) => match u with | _ => True) (fun (u : Unit) t => match u with | _ => va_P G.1 vwCl [(tp, .inl (G.2.1, 160, .inl (gPf tB 40))), (wo, .inl (G.2.1, 96, .inl (gPf tW 96))), (h0, .inr (6, [.int 0, .ref kd, .ref mo, .ref st, .int 0, .ref ro, .ref tp, .int 40, .ref cd, .ref sr, .int 0, .int 0, .int 0, .ref ir, .ref ih, .ref ss, .ref sq, .ref ce, .ref lw, .int 30, .int 29, .int 59, .int 0, .ref wo, .ref he, .int 0, .int 0, .int 4, .ref sk, .ref na, .ref kp, .int 0, .int 0, .int 0, .int 0, .ref gb, .ref go, .ref fa, .ref ga, .int 0, .int 0, .ref vo]))] t.heap ∧ gK G t ∧ va_D A [(tp, .inl (G.2.1, 160, .inl (gPf tB 40))), (wo, .inl (G.2.1, 96, .inl (gPf tW 96))), (h0, .inr (6, [.int 0, .ref kd, .ref mo, .ref st, .int 0, .ref ro, .ref tp, .int 40, .ref cd, .ref sr, .int 0, .int 0, .int 0, .ref ir, .ref ih, .ref ss, .ref sq, .ref ce, .ref lw, .int 30, .int 29, .int 59, .int 0, .ref wo, .ref he, .int 0, .int 0, .int 4, .ref sk, .ref na, .ref kp, .int 0, .int 0, .int 0, .int 0, .ref gb, .ref go, .ref fa, .ref ga, .int 0, .int 0, .ref vo]))]) A
set_option maxHeartbeats 4000000 in
set_option maxRecDepth 100000 in
theorem c_X6_next_z48 (l : Launch) (G : gG) (h0 tp wo kd mo st ro cd sr ir ih ss sq ce lw he sk na kp gb go fa ga vo : Nat) (sz : Nat) : Met l yX6_next wsX6_next ({ frames := 1, cells := 0, slots := 0, locals := 22 }) (gPre G [.ref h0] [(tp, .inl (G.2.1, 160, .inl (gPf tB 40))), (wo, .inl (G.2.1, 96, .inl (gPf tW 96))), (h0, .inr (6, [.int 0, .ref kd, .ref mo, .ref st, .int 0, .ref ro, .ref tp, .int 40, .ref cd, .ref sr, .int 0, .int 0, .int 0, .ref ir, .ref ih, .ref ss, .ref sq, .ref ce, .ref lw, .int 28, .int 27, .int 1, .int 1, .ref wo, .ref he, .int 0, .int 0, .int 4, .ref sk, .ref na, .ref kp, .int 0, .int 0, .int 0, .int 0, .ref gb, .ref go, .ref fa, .ref ga, .int 0, .int 0, .ref vo]))] sz) (q_X6_next_z48 G h0 tp wo kd mo st ro cd sr ir ih ss sq ce lw he sk na kp gb go fa ga vo (va_A [(tp, .inl (G.2.1, 160, .inl (gPf tB 40))), (wo, .inl (G.2.1, 96, .inl (gPf tW 96))), (h0, .inr (6, [.int 0, .ref kd, .ref mo, .ref st, .int 0, .ref ro, .ref tp, .int 40, .ref cd, .ref sr, .int 0, .int 0, .int 0, .ref ir, .ref ih, .ref ss, .ref sq, .ref ce, .ref lw, .int 28, .int 27, .int 1, .int 1, .ref wo, .ref he, .int 0, .int 0, .int 4, .ref sk, .ref na, .ref kp, .int 0, .int 0, .int 0, .int 0, .ref gb, .ref go, .ref fa, .ref ga, .int 0, .int 0, .ref vo]))] sz)) 0 0 (va_A [(tp, .inl (G.2.1, 160, .inl (gPf tB 40))), (wo, .inl (G.2.1, 96, .inl (gPf tW 96))), (h0, .inr (6, [.int 0, .ref kd, .ref mo, .ref st, .int 0, .ref ro, .ref tp, .int 40, .ref cd, .ref sr, .int 0, .int 0, .int 0, .ref ir, .ref ih, .ref ss, .ref sq, .ref ce, .ref lw, .int 28, .int 27, .int 1, .int 1, .ref wo, .ref he, .int 0, .int 0, .int 4, .ref sk, .ref na, .ref kp, .int 0, .int 0, .int 0, .int 0, .ref gb, .ref go, .ref fa, .ref ga, .int 0, .int 0, .ref vo]))] sz) := by
  refine Met.ofW (cc := cX6_next) (maxL := 3) (ret := none) (by decide) rfl ?_
  intro p e s m args below meth c s₁ B hml hv
  obtain ⟨rfl, hsz, hP, hK, hD0⟩ := hv
  have hx := B.exec
  have hb := B.bytes
  have hr := B.returns
  have hts := atoms_spec (ws := wsX6_next) B.pre
  have hown : s.vm.findClass RX6 = some m.cls := findClass_of_methodNamed B.named
  have hlocks := B.notSynchronized
  subst hsz
  have hD := hD0.self (sz := s.heap.size)
  generalize hAe : va_A [(tp, .inl (G.2.1, 160, .inl (gPf tB 40))), (wo, .inl (G.2.1, 96, .inl (gPf tW 96))), (h0, .inr (6, [.int 0, .ref kd, .ref mo, .ref st, .int 0, .ref ro, .ref tp, .int 40, .ref cd, .ref sr, .int 0, .int 0, .int 0, .ref ir, .ref ih, .ref ss, .ref sq, .ref ce, .ref lw, .int 28, .int 27, .int 1, .int 1, .ref wo, .ref he, .int 0, .int 0, .int 4, .ref sk, .ref na, .ref kp, .int 0, .int 0, .int 0, .int 0, .ref gb, .ref go, .ref fa, .ref ga, .int 0, .int 0, .ref vo]))] s.heap.size = A at hD ⊢
  have hA : ∀ q : Nat, s.heap.size ≤ q → A q := fun q h => by rw [← hAe]; exact Or.inr h
  have hS : va_S A s.heap s.heap [] := va_S.rf
  have hP : va_P G.1 vwCl [(tp, .inl (G.2.1, 160, .inl (gPf tB 40))), (wo, .inl (G.2.1, 96, .inl (gPf tW 96))), (h0, .inr (6, [.int 0, .ref kd, .ref mo, .ref st, .int 0, .ref ro, .ref tp, .int 40, .ref cd, .ref sr, .int 0, .int 0, .int 0, .ref ir, .ref ih, .ref ss, .ref sq, .ref ce, .ref lw, .int 28, .int 27, .int 1, .int 1, .ref wo, .ref he, .int 0, .int 0, .int 4, .ref sk, .ref na, .ref kp, .int 0, .int 0, .int 0, .int 0, .ref gb, .ref go, .ref fa, .ref ga, .int 0, .int 0, .ref vo]))] s.heap := hP
  have hD : va_D A [(tp, .inl (G.2.1, 160, .inl (gPf tB 40))), (wo, .inl (G.2.1, 96, .inl (gPf tW 96))), (h0, .inr (6, [.int 0, .ref kd, .ref mo, .ref st, .int 0, .ref ro, .ref tp, .int 40, .ref cd, .ref sr, .int 0, .int 0, .int 0, .ref ir, .ref ih, .ref ss, .ref sq, .ref ce, .ref lw, .int 28, .int 27, .int 1, .int 1, .ref wo, .ref he, .int 0, .int 0, .int 4, .ref sk, .ref na, .ref kp, .int 0, .int 0, .int 0, .int 0, .ref gb, .ref go, .ref fa, .ref ga, .int 0, .int 0, .ref vo]))] := hD
  have hl := lv_entry ([.ref h0]) (n := 3) (Nat.le_of_ble_eq_true rfl)
  rw [lg_entry_eq]
  generalize (lg_sl ([.ref h0]) ++ List.replicate (3 - (lg_sl ([.ref h0])).length) Slot.unset).toArray = ls at hl ⊢
  have hl : lv_has ls 3 [(0, .ref h0)] := hl
  have kf111 := hts (.fieldLink RX6 111 "PebbleInShoeModel" "at" "I") (by decide +kernel)
  have hiX6 := (by decide +kernel : ∀ w ∈ wsX60, w ∈ wsX6_next)
  have kf80 := hts (.fieldLink RX6 80 "PebbleInShoeModel" "taped" "I") (by decide +kernel)
  have kf22 := hts (.fieldLink RX6 22 "PebbleInShoeModel" "tape" "[I") (by decide +kernel)
  have kf114 := hts (.fieldLink RX6 114 "PebbleInShoeModel" "begun" "I") (by decide +kernel)
  have kf117 := hts (.fieldLink RX6 117 "PebbleInShoeModel" "token" "I") (by decide +kernel)
  have kf120 := hts (.fieldLink RX6 120 "PebbleInShoeModel" "value" "I") (by decide +kernel)
  refine lv_aload_n hx hb dX6_next_0 rfl (lv_at hl 0 rfl) ?_
  refine va_get (D := G.1) (ci := 6) (v := .int 28) (C := RX6) (T := TX6) (N := 42) hx hb hts hiX6 hown hK hP 2 rfl rfl 19 (by decide) kf111 (fun _ h9 => h9) rfl dX6_next_1 ?_
  refine lv_aload_n hx hb dX6_next_4 rfl (lv_at hl 0 rfl) ?_
  refine va_get (D := G.1) (ci := 6) (v := .int 40) (C := RX6) (T := TX6) (N := 42) hx hb hts hiX6 hown hK hP 2 rfl rfl 7 (by decide) kf80 (fun _ h9 => h9) rfl dX6_next_5 ?_
  refine lv_icmp_ge (tgt := 52) hx hb dX6_next_8 (by decide) (fun c_1 => ?_) (fun c_1 => ?_)
  · exact absurd c_1 (by decide)
  refine lv_aload_n hx hb dX6_next_11 rfl (lv_at hl 0 rfl) ?_
  refine va_get (D := G.1) (ci := 6) (v := .ref tp) (C := RX6) (T := TX6) (N := 42) hx hb hts hiX6 hown hK hP 2 rfl rfl 6 (by decide) kf22 (fun _ h9 => h9) rfl dX6_next_12 ?_
  refine lv_aload_n hx hb dX6_next_15 rfl (lv_at hl 0 rfl) ?_
  refine va_get (D := G.1) (ci := 6) (v := .int 28) (C := RX6) (T := TX6) (N := 42) hx hb hts hiX6 hown hK hP 2 rfl rfl 19 (by decide) kf111 (fun _ h9 => h9) rfl dX6_next_16 ?_
  refine va_iald (D := G.1) hx hb hK hP 0 0 rfl rfl (i := 28) (gIn (by decide)) dX6_next_19 ?_
  refine lv_topi (fun v_2 ev_2 => ?_)
  have ev_2 : v_2 = 32 := ev_2.trans (by decide)
  subst ev_2
  refine lv_bipush (v := 32) hx hb dX6_next_20 (by decide) ?_
  refine lv_icmp_eq (tgt := 39) hx hb dX6_next_22 (by decide) (fun c_3 => ?_) (fun c_3 => ?_)
  rotate_left
  · exact absurd (by decide) c_3
  refine lv_aload_n hx hb dX6_next_39 rfl (lv_at hl 0 rfl) ?_
  refine lv_dup hx hb dX6_next_40 rfl ?_
  refine va_get (D := G.1) (ci := 6) (v := .int 28) (C := RX6) (T := TX6) (N := 42) hx hb hts hiX6 hown hK hP 2 rfl rfl 19 (by decide) kf111 (fun _ h9 => h9) rfl dX6_next_41 ?_
  refine lv_iconst (v := 1) hx hb dX6_next_44 (by decide) ?_
  refine lv_iadd hx hb dX6_next_45 ?_
  refine lv_topi (fun v_4 ev_4 => ?_)
  have ev_4 : v_4 = 29 := ev_4.trans (by decide)
  subst ev_4
  refine va_put (D := G.1) (ci := 6) (v := .int 29) (ty := .int) (C := RX6) (T := TX6) (N := 42) hx hb hts hiX6 tyX6 tyX6_ok nmX6 hown hK hP hD hS 2 rfl rfl 19 (by decide) kf111 (fun _ h9 => h9) rfl (by decide +kernel) rfl rfl (Nat.le_of_ble_eq_true rfl) dX6_next_46 (fun H locs hP hD hS => ?_)
  have hP : va_P G.1 vwCl [(tp, .inl (G.2.1, 160, .inl (gPf tB 40))), (wo, .inl (G.2.1, 96, .inl (gPf tW 96))), (h0, .inr (6, [.int 0, .ref kd, .ref mo, .ref st, .int 0, .ref ro, .ref tp, .int 40, .ref cd, .ref sr, .int 0, .int 0, .int 0, .ref ir, .ref ih, .ref ss, .ref sq, .ref ce, .ref lw, .int 29, .int 27, .int 1, .int 1, .ref wo, .ref he, .int 0, .int 0, .int 4, .ref sk, .ref na, .ref kp, .int 0, .int 0, .int 0, .int 0, .ref gb, .ref go, .ref fa, .ref ga, .int 0, .int 0, .ref vo]))] H := hP
  have hD : va_D A [(tp, .inl (G.2.1, 160, .inl (gPf tB 40))), (wo, .inl (G.2.1, 96, .inl (gPf tW 96))), (h0, .inr (6, [.int 0, .ref kd, .ref mo, .ref st, .int 0, .ref ro, .ref tp, .int 40, .ref cd, .ref sr, .int 0, .int 0, .int 0, .ref ir, .ref ih, .ref ss, .ref sq, .ref ce, .ref lw, .int 29, .int 27, .int 1, .int 1, .ref wo, .ref he, .int 0, .int 0, .int 4, .ref sk, .ref na, .ref kp, .int 0, .int 0, .int 0, .int 0, .ref gb, .ref go, .ref fa, .ref ga, .int 0, .int 0, .ref vo]))] := hD
  refine lv_goto (tgt := 0) hx hb dX6_next_49 (by decide) ?_
  refine lv_aload_n hx hb dX6_next_0 rfl (lv_at hl 0 rfl) ?_
  refine va_get (D := G.1) (ci := 6) (v := .int 29) (C := RX6) (T := TX6) (N := 42) hx hb hts hiX6 hown hK hP 2 rfl rfl 19 (by decide) kf111 (fun _ h9 => h9) rfl dX6_next_1 ?_
  refine lv_aload_n hx hb dX6_next_4 rfl (lv_at hl 0 rfl) ?_
  refine va_get (D := G.1) (ci := 6) (v := .int 40) (C := RX6) (T := TX6) (N := 42) hx hb hts hiX6 hown hK hP 2 rfl rfl 7 (by decide) kf80 (fun _ h9 => h9) rfl dX6_next_5 ?_
  refine lv_icmp_ge (tgt := 52) hx hb dX6_next_8 (by decide) (fun c_5 => ?_) (fun c_5 => ?_)
  · exact absurd c_5 (by decide)
  refine lv_aload_n hx hb dX6_next_11 rfl (lv_at hl 0 rfl) ?_
  refine va_get (D := G.1) (ci := 6) (v := .ref tp) (C := RX6) (T := TX6) (N := 42) hx hb hts hiX6 hown hK hP 2 rfl rfl 6 (by decide) kf22 (fun _ h9 => h9) rfl dX6_next_12 ?_
  refine lv_aload_n hx hb dX6_next_15 rfl (lv_at hl 0 rfl) ?_
  refine va_get (D := G.1) (ci := 6) (v := .int 29) (C := RX6) (T := TX6) (N := 42) hx hb hts hiX6 hown hK hP 2 rfl rfl 19 (by decide) kf111 (fun _ h9 => h9) rfl dX6_next_16 ?_
  refine va_iald (D := G.1) hx hb hK hP 0 0 rfl rfl (i := 29) (gIn (by decide)) dX6_next_19 ?_
  refine lv_topi (fun v_6 ev_6 => ?_)
  have ev_6 : v_6 = 59 := ev_6.trans (by decide)
  subst ev_6
  refine lv_bipush (v := 32) hx hb dX6_next_20 (by decide) ?_
  refine lv_icmp_eq (tgt := 39) hx hb dX6_next_22 (by decide) (fun c_7 => ?_) (fun c_7 => ?_)
  · exact absurd c_7 (by decide)
  refine lv_aload_n hx hb dX6_next_25 rfl (lv_at hl 0 rfl) ?_
  refine va_get (D := G.1) (ci := 6) (v := .ref tp) (C := RX6) (T := TX6) (N := 42) hx hb hts hiX6 hown hK hP 2 rfl rfl 6 (by decide) kf22 (fun _ h9 => h9) rfl dX6_next_26 ?_
  refine lv_aload_n hx hb dX6_next_29 rfl (lv_at hl 0 rfl) ?_
  refine va_get (D := G.1) (ci := 6) (v := .int 29) (C := RX6) (T := TX6) (N := 42) hx hb hts hiX6 hown hK hP 2 rfl rfl 19 (by decide) kf111 (fun _ h9 => h9) rfl dX6_next_30 ?_
  refine va_iald (D := G.1) hx hb hK hP 0 0 rfl rfl (i := 29) (gIn (by decide)) dX6_next_33 ?_
  refine lv_topi (fun v_8 ev_8 => ?_)
  have ev_8 : v_8 = 59 := ev_8.trans (by decide)
  subst ev_8
  refine lv_bipush (v := 10) hx hb dX6_next_34 (by decide) ?_
  refine lv_icmp_ne (tgt := 52) hx hb dX6_next_36 (by decide) (fun c_9 => ?_) (fun c_9 => ?_)
  rotate_left
  · exact absurd c_9 (by decide)
  refine lv_aload_n hx hb dX6_next_52 rfl (lv_at hl 0 rfl) ?_
  refine lv_aload_n hx hb dX6_next_53 rfl (lv_at hl 0 rfl) ?_
  refine va_get (D := G.1) (ci := 6) (v := .int 29) (C := RX6) (T := TX6) (N := 42) hx hb hts hiX6 hown hK hP 2 rfl rfl 19 (by decide) kf111 (fun _ h9 => h9) rfl dX6_next_54 ?_
  refine va_put (D := G.1) (ci := 6) (v := .int 29) (ty := .int) (C := RX6) (T := TX6) (N := 42) hx hb hts hiX6 tyX6 tyX6_ok nmX6 hown hK hP hD hS 2 rfl rfl 20 (by decide) kf114 (fun _ h9 => h9) rfl (by decide +kernel) rfl rfl (Nat.le_of_ble_eq_true rfl) dX6_next_57 (fun H locs hP hD hS => ?_)
  have hP : va_P G.1 vwCl [(tp, .inl (G.2.1, 160, .inl (gPf tB 40))), (wo, .inl (G.2.1, 96, .inl (gPf tW 96))), (h0, .inr (6, [.int 0, .ref kd, .ref mo, .ref st, .int 0, .ref ro, .ref tp, .int 40, .ref cd, .ref sr, .int 0, .int 0, .int 0, .ref ir, .ref ih, .ref ss, .ref sq, .ref ce, .ref lw, .int 29, .int 29, .int 1, .int 1, .ref wo, .ref he, .int 0, .int 0, .int 4, .ref sk, .ref na, .ref kp, .int 0, .int 0, .int 0, .int 0, .ref gb, .ref go, .ref fa, .ref ga, .int 0, .int 0, .ref vo]))] H := hP
  have hD : va_D A [(tp, .inl (G.2.1, 160, .inl (gPf tB 40))), (wo, .inl (G.2.1, 96, .inl (gPf tW 96))), (h0, .inr (6, [.int 0, .ref kd, .ref mo, .ref st, .int 0, .ref ro, .ref tp, .int 40, .ref cd, .ref sr, .int 0, .int 0, .int 0, .ref ir, .ref ih, .ref ss, .ref sq, .ref ce, .ref lw, .int 29, .int 29, .int 1, .int 1, .ref wo, .ref he, .int 0, .int 0, .int 4, .ref sk, .ref na, .ref kp, .int 0, .int 0, .int 0, .int 0, .ref gb, .ref go, .ref fa, .ref ga, .int 0, .int 0, .ref vo]))] := hD
  refine lv_aload_n hx hb dX6_next_60 rfl (lv_at hl 0 rfl) ?_
  refine lv_iconst (v := 0) hx hb dX6_next_61 (by decide) ?_
  refine va_put (D := G.1) (ci := 6) (v := .int 0) (ty := .int) (C := RX6) (T := TX6) (N := 42) hx hb hts hiX6 tyX6 tyX6_ok nmX6 hown hK hP hD hS 2 rfl rfl 21 (by decide) kf117 (fun _ h9 => h9) rfl (by decide +kernel) rfl rfl (Nat.le_of_ble_eq_true rfl) dX6_next_62 (fun H locs hP hD hS => ?_)
  have hP : va_P G.1 vwCl [(tp, .inl (G.2.1, 160, .inl (gPf tB 40))), (wo, .inl (G.2.1, 96, .inl (gPf tW 96))), (h0, .inr (6, [.int 0, .ref kd, .ref mo, .ref st, .int 0, .ref ro, .ref tp, .int 40, .ref cd, .ref sr, .int 0, .int 0, .int 0, .ref ir, .ref ih, .ref ss, .ref sq, .ref ce, .ref lw, .int 29, .int 29, .int 0, .int 1, .ref wo, .ref he, .int 0, .int 0, .int 4, .ref sk, .ref na, .ref kp, .int 0, .int 0, .int 0, .int 0, .ref gb, .ref go, .ref fa, .ref ga, .int 0, .int 0, .ref vo]))] H := hP
  have hD : va_D A [(tp, .inl (G.2.1, 160, .inl (gPf tB 40))), (wo, .inl (G.2.1, 96, .inl (gPf tW 96))), (h0, .inr (6, [.int 0, .ref kd, .ref mo, .ref st, .int 0, .ref ro, .ref tp, .int 40, .ref cd, .ref sr, .int 0, .int 0, .int 0, .ref ir, .ref ih, .ref ss, .ref sq, .ref ce, .ref lw, .int 29, .int 29, .int 0, .int 1, .ref wo, .ref he, .int 0, .int 0, .int 4, .ref sk, .ref na, .ref kp, .int 0, .int 0, .int 0, .int 0, .ref gb, .ref go, .ref fa, .ref ga, .int 0, .int 0, .ref vo]))] := hD
  refine lv_aload_n hx hb dX6_next_65 rfl (lv_at hl 0 rfl) ?_
  refine lv_iconst (v := 0) hx hb dX6_next_66 (by decide) ?_
  refine va_put (D := G.1) (ci := 6) (v := .int 0) (ty := .int) (C := RX6) (T := TX6) (N := 42) hx hb hts hiX6 tyX6 tyX6_ok nmX6 hown hK hP hD hS 2 rfl rfl 22 (by decide) kf120 (fun _ h9 => h9) rfl (by decide +kernel) rfl rfl (Nat.le_of_ble_eq_true rfl) dX6_next_67 (fun H locs hP hD hS => ?_)
  have hP : va_P G.1 vwCl [(tp, .inl (G.2.1, 160, .inl (gPf tB 40))), (wo, .inl (G.2.1, 96, .inl (gPf tW 96))), (h0, .inr (6, [.int 0, .ref kd, .ref mo, .ref st, .int 0, .ref ro, .ref tp, .int 40, .ref cd, .ref sr, .int 0, .int 0, .int 0, .ref ir, .ref ih, .ref ss, .ref sq, .ref ce, .ref lw, .int 29, .int 29, .int 0, .int 0, .ref wo, .ref he, .int 0, .int 0, .int 4, .ref sk, .ref na, .ref kp, .int 0, .int 0, .int 0, .int 0, .ref gb, .ref go, .ref fa, .ref ga, .int 0, .int 0, .ref vo]))] H := hP
  have hD : va_D A [(tp, .inl (G.2.1, 160, .inl (gPf tB 40))), (wo, .inl (G.2.1, 96, .inl (gPf tW 96))), (h0, .inr (6, [.int 0, .ref kd, .ref mo, .ref st, .int 0, .ref ro, .ref tp, .int 40, .ref cd, .ref sr, .int 0, .int 0, .int 0, .ref ir, .ref ih, .ref ss, .ref sq, .ref ce, .ref lw, .int 29, .int 29, .int 0, .int 0, .ref wo, .ref he, .int 0, .int 0, .int 4, .ref sk, .ref na, .ref kp, .int 0, .int 0, .int 0, .int 0, .ref gb, .ref go, .ref fa, .ref ga, .int 0, .int 0, .ref vo]))] := hD
  refine lv_aload_n hx hb dX6_next_70 rfl (lv_at hl 0 rfl) ?_
  refine va_get (D := G.1) (ci := 6) (v := .int 29) (C := RX6) (T := TX6) (N := 42) hx hb hts hiX6 hown hK hP 2 rfl rfl 19 (by decide) kf111 (fun _ h9 => h9) rfl dX6_next_71 ?_
  refine lv_aload_n hx hb dX6_next_74 rfl (lv_at hl 0 rfl) ?_
  refine va_get (D := G.1) (ci := 6) (v := .int 40) (C := RX6) (T := TX6) (N := 42) hx hb hts hiX6 hown hK hP 2 rfl rfl 7 (by decide) kf80 (fun _ h9 => h9) rfl dX6_next_75 ?_
  refine lv_icmp_ne (tgt := 82) hx hb dX6_next_78 (by decide) (fun c_10 => ?_) (fun c_10 => ?_)
  rotate_left
  · exact absurd c_10 (by decide)
  refine lv_aload_n hx hb dX6_next_82 rfl (lv_at hl 0 rfl) ?_
  refine va_get (D := G.1) (ci := 6) (v := .ref tp) (C := RX6) (T := TX6) (N := 42) hx hb hts hiX6 hown hK hP 2 rfl rfl 6 (by decide) kf22 (fun _ h9 => h9) rfl dX6_next_83 ?_
  refine lv_aload_n hx hb dX6_next_86 rfl (lv_at hl 0 rfl) ?_
  refine va_get (D := G.1) (ci := 6) (v := .int 29) (C := RX6) (T := TX6) (N := 42) hx hb hts hiX6 hown hK hP 2 rfl rfl 19 (by decide) kf111 (fun _ h9 => h9) rfl dX6_next_87 ?_
  refine va_iald (D := G.1) hx hb hK hP 0 0 rfl rfl (i := 29) (gIn (by decide)) dX6_next_90 ?_
  refine lv_topi (fun v_11 ev_11 => ?_)
  have ev_11 : v_11 = 59 := ev_11.trans (by decide)
  subst ev_11
  refine lv_istore_n (lv' := [(1, .int 59), (0, .ref h0)]) hx hb dX6_next_91 rfl hl (by decide) rfl (fun ls hl => ?_)
  refine lv_iload_n hx hb dX6_next_92 rfl (lv_at hl 0 rfl) ?_
  refine lv_bipush (v := 97) hx hb dX6_next_93 (by decide) ?_
  refine lv_bipush (v := 122) hx hb dX6_next_95 (by decide) ?_
  have hPc : va_P G.1 vwCl [] H := hP.sub [] rfl
  have hDc : va_D A [] := hD.sub [] (by decide) rfl
  have hFc := va_free (wc := []) hD hS hA [] rfl
  refine va_calli (va_runS (As := [.int 59, .int 97, .int 122]) (rest := []) ⟨hx, hb, hml, hown, hts⟩ (c_X6_in_z33 l G H.size) (va_cwS 3 hts gX6_next_X6_in rfl rfl rfl (by decide +kernel) ⟨Nat.le_of_ble_eq_true rfl, Nat.le_of_ble_eq_true rfl⟩) ⟨gPre_blind, fun U hU hW => gPre_of hU hW hK hPc hDc⟩ rfl rfl hl.1 rfl (lv_room (Nat.le_of_ble_eq_true rfl)) dX6_next_97 ⟨Nat.le_of_ble_eq_true rfl, Nat.le_of_ble_eq_true rfl⟩) hS (fun q _ h => hFc q h) hFc (fun r_12 u t H locs ht hvm w_13 hB hz1 hk1 hS => ?_)
  obtain ⟨hP1, hK1, hD1⟩ := hB
  rw [ht] at hP1
  have hP1 : va_P G.1 vwCl [] H := hP1
  have hD1 : va_D (va_A [] _) [] := hD1
  have w_13 : r_12 = 0 := w_13
  obtain ⟨hP, hD⟩ := va_join (wr := [(tp, .inl (G.2.1, 160, .inl (gPf tB 40))), (wo, .inl (G.2.1, 96, .inl (gPf tW 96))), (h0, .inr (6, [.int 0, .ref kd, .ref mo, .ref st, .int 0, .ref ro, .ref tp, .int 40, .ref cd, .ref sr, .int 0, .int 0, .int 0, .ref ir, .ref ih, .ref ss, .ref sq, .ref ce, .ref lw, .int 29, .int 29, .int 0, .int 0, .ref wo, .ref he, .int 0, .int 0, .int 4, .ref sk, .ref na, .ref kp, .int 0, .int 0, .int 0, .int 0, .ref gb, .ref go, .ref fa, .ref ga, .int 0, .int 0, .ref vo]))]) (w1 := []) hP hD [] [0, 1, 2] rfl rfl (by decide) (by decide) hk1 hFc hP1 hD1
  have hP : va_P G.1 vwCl [(tp, .inl (G.2.1, 160, .inl (gPf tB 40))), (wo, .inl (G.2.1, 96, .inl (gPf tW 96))), (h0, .inr (6, [.int 0, .ref kd, .ref mo, .ref st, .int 0, .ref ro, .ref tp, .int 40, .ref cd, .ref sr, .int 0, .int 0, .int 0, .ref ir, .ref ih, .ref ss, .ref sq, .ref ce, .ref lw, .int 29, .int 29, .int 0, .int 0, .ref wo, .ref he, .int 0, .int 0, .int 4, .ref sk, .ref na, .ref kp, .int 0, .int 0, .int 0, .int 0, .ref gb, .ref go, .ref fa, .ref ga, .int 0, .int 0, .ref vo]))] H := hP
  have hD : va_D A [(tp, .inl (G.2.1, 160, .inl (gPf tB 40))), (wo, .inl (G.2.1, 96, .inl (gPf tW 96))), (h0, .inr (6, [.int 0, .ref kd, .ref mo, .ref st, .int 0, .ref ro, .ref tp, .int 40, .ref cd, .ref sr, .int 0, .int 0, .int 0, .ref ir, .ref ih, .ref ss, .ref sq, .ref ce, .ref lw, .int 29, .int 29, .int 0, .int 0, .ref wo, .ref he, .int 0, .int 0, .int 4, .ref sk, .ref na, .ref kp, .int 0, .int 0, .int 0, .int 0, .ref gb, .ref go, .ref fa, .ref ga, .int 0, .int 0, .ref vo]))] := hD
  have w_13 : r_12 = 0 := w_13
  subst w_13
  refine lv_if_eq (tgt := 217) hx hb dX6_next_100 (by decide) (fun c_14 => ?_) (fun c_14 => ?_)
  rotate_left
  · exact absurd (by decide) c_14
  refine lv_iload_n hx hb dX6_next_217 rfl (lv_at hl 0 rfl) ?_
  refine lv_bipush (v := 48) hx hb dX6_next_218 (by decide) ?_
  refine lv_bipush (v := 57) hx hb dX6_next_220 (by decide) ?_
  have hPc : va_P G.1 vwCl [] H := hP.sub [] rfl
  have hDc : va_D A [] := hD.sub [] (by decide) rfl
  have hFc := va_free (wc := []) hD hS hA [] rfl
  refine va_calli (va_runS (As := [.int 59, .int 48, .int 57]) (rest := []) ⟨hx, hb, hml, hown, hts⟩ (c_X6_in_z34 l G H.size) (va_cwS 3 hts gX6_next_X6_in rfl rfl rfl (by decide +kernel) ⟨Nat.le_of_ble_eq_true rfl, Nat.le_of_ble_eq_true rfl⟩) ⟨gPre_blind, fun U hU hW => gPre_of hU hW hK hPc hDc⟩ rfl rfl hl.1 rfl (lv_room (Nat.le_of_ble_eq_true rfl)) dX6_next_222 ⟨Nat.le_of_ble_eq_true rfl, Nat.le_of_ble_eq_true rfl⟩) hS (fun q _ h => hFc q h) hFc (fun r_15 u t H locs ht hvm w_16 hB hz1 hk1 hS => ?_)
  obtain ⟨hP1, hK1, hD1⟩ := hB
  rw [ht] at hP1
  have hP1 : va_P G.1 vwCl [] H := hP1
  have hD1 : va_D (va_A [] _) [] := hD1
  have w_16 : r_15 = 0 := w_16
  obtain ⟨hP, hD⟩ := va_join (wr := [(tp, .inl (G.2.1, 160, .inl (gPf tB 40))), (wo, .inl (G.2.1, 96, .inl (gPf tW 96))), (h0, .inr (6, [.int 0, .ref kd, .ref mo, .ref st, .int 0, .ref ro, .ref tp, .int 40, .ref cd, .ref sr, .int 0, .int 0, .int 0, .ref ir, .ref ih, .ref ss, .ref sq, .ref ce, .ref lw, .int 29, .int 29, .int 0, .int 0, .ref wo, .ref he, .int 0, .int 0, .int 4, .ref sk, .ref na, .ref kp, .int 0, .int 0, .int 0, .int 0, .ref gb, .ref go, .ref fa, .ref ga, .int 0, .int 0, .ref vo]))]) (w1 := []) hP hD [] [0, 1, 2] rfl rfl (by decide) (by decide) hk1 hFc hP1 hD1
  have hP : va_P G.1 vwCl [(tp, .inl (G.2.1, 160, .inl (gPf tB 40))), (wo, .inl (G.2.1, 96, .inl (gPf tW 96))), (h0, .inr (6, [.int 0, .ref kd, .ref mo, .ref st, .int 0, .ref ro, .ref tp, .int 40, .ref cd, .ref sr, .int 0, .int 0, .int 0, .ref ir, .ref ih, .ref ss, .ref sq, .ref ce, .ref lw, .int 29, .int 29, .int 0, .int 0, .ref wo, .ref he, .int 0, .int 0, .int 4, .ref sk, .ref na, .ref kp, .int 0, .int 0, .int 0, .int 0, .ref gb, .ref go, .ref fa, .ref ga, .int 0, .int 0, .ref vo]))] H := hP
  have hD : va_D A [(tp, .inl (G.2.1, 160, .inl (gPf tB 40))), (wo, .inl (G.2.1, 96, .inl (gPf tW 96))), (h0, .inr (6, [.int 0, .ref kd, .ref mo, .ref st, .int 0, .ref ro, .ref tp, .int 40, .ref cd, .ref sr, .int 0, .int 0, .int 0, .ref ir, .ref ih, .ref ss, .ref sq, .ref ce, .ref lw, .int 29, .int 29, .int 0, .int 0, .ref wo, .ref he, .int 0, .int 0, .int 4, .ref sk, .ref na, .ref kp, .int 0, .int 0, .int 0, .int 0, .ref gb, .ref go, .ref fa, .ref ga, .int 0, .int 0, .ref vo]))] := hD
  have w_16 : r_15 = 0 := w_16
  subst w_16
  refine lv_if_eq (tgt := 326) hx hb dX6_next_225 (by decide) (fun c_17 => ?_) (fun c_17 => ?_)
  rotate_left
  · exact absurd (by decide) c_17
  refine lv_iload_n hx hb dX6_next_326 rfl (lv_at hl 0 rfl) ?_
  refine lv_bipush (v := 40) hx hb dX6_next_327 (by decide) ?_
  refine lv_icmp_eq (tgt := 374) hx hb dX6_next_329 (by decide) (fun c_18 => ?_) (fun c_18 => ?_)
  · exact absurd c_18 (by decide)
  refine lv_iload_n hx hb dX6_next_332 rfl (lv_at hl 0 rfl) ?_
  refine lv_bipush (v := 41) hx hb dX6_next_333 (by decide) ?_
  refine lv_icmp_eq (tgt := 374) hx hb dX6_next_335 (by decide) (fun c_19 => ?_) (fun c_19 => ?_)
  · exact absurd c_19 (by decide)
  refine lv_iload_n hx hb dX6_next_338 rfl (lv_at hl 0 rfl) ?_
  refine lv_bipush (v := 59) hx hb dX6_next_339 (by decide) ?_
  refine lv_icmp_eq (tgt := 374) hx hb dX6_next_341 (by decide) (fun c_20 => ?_) (fun c_20 => ?_)
  rotate_left
  · exact absurd (by decide) c_20
  refine lv_iconst (v := 1) hx hb dX6_next_374 (by decide) ?_
  refine lv_goto (tgt := 379) hx hb dX6_next_375 (by decide) ?_
  refine lv_istore_n (lv' := [(2, .int 1), (1, .int 59), (0, .ref h0)]) hx hb dX6_next_379 rfl hl (by decide) rfl (fun ls hl => ?_)
  refine lv_aload_n hx hb dX6_next_380 rfl (lv_at hl 2 rfl) ?_
  refine lv_iload_n hx hb dX6_next_381 rfl (lv_at hl 0 rfl) ?_
  refine lv_if_eq (tgt := 389) hx hb dX6_next_382 (by decide) (fun c_21 => ?_) (fun c_21 => ?_)
  · exact absurd c_21 (by decide)
  refine lv_iload_n hx hb dX6_next_385 rfl (lv_at hl 1 rfl) ?_
  refine lv_goto (tgt := 390) hx hb dX6_next_386 (by decide) ?_
  refine va_put (D := G.1) (ci := 6) (v := .int 59) (ty := .int) (C := RX6) (T := TX6) (N := 42) hx hb hts hiX6 tyX6 tyX6_ok nmX6 hown hK hP hD hS 2 rfl rfl 21 (by decide) kf117 (fun _ h9 => h9) rfl (by decide +kernel) rfl rfl (Nat.le_of_ble_eq_true rfl) dX6_next_390 (fun H locs hP hD hS => ?_)
  have hP : va_P G.1 vwCl [(tp, .inl (G.2.1, 160, .inl (gPf tB 40))), (wo, .inl (G.2.1, 96, .inl (gPf tW 96))), (h0, .inr (6, [.int 0, .ref kd, .ref mo, .ref st, .int 0, .ref ro, .ref tp, .int 40, .ref cd, .ref sr, .int 0, .int 0, .int 0, .ref ir, .ref ih, .ref ss, .ref sq, .ref ce, .ref lw, .int 29, .int 29, .int 59, .int 0, .ref wo, .ref he, .int 0, .int 0, .int 4, .ref sk, .ref na, .ref kp, .int 0, .int 0, .int 0, .int 0, .ref gb, .ref go, .ref fa, .ref ga, .int 0, .int 0, .ref vo]))] H := hP
  have hD : va_D A [(tp, .inl (G.2.1, 160, .inl (gPf tB 40))), (wo, .inl (G.2.1, 96, .inl (gPf tW 96))), (h0, .inr (6, [.int 0, .ref kd, .ref mo, .ref st, .int 0, .ref ro, .ref tp, .int 40, .ref cd, .ref sr, .int 0, .int 0, .int 0, .ref ir, .ref ih, .ref ss, .ref sq, .ref ce, .ref lw, .int 29, .int 29, .int 59, .int 0, .ref wo, .ref he, .int 0, .int 0, .int 4, .ref sk, .ref na, .ref kp, .int 0, .int 0, .int 0, .int 0, .ref gb, .ref go, .ref fa, .ref ga, .int 0, .int 0, .ref vo]))] := hD
  refine lv_aload_n hx hb dX6_next_393 rfl (lv_at hl 2 rfl) ?_
  refine lv_dup hx hb dX6_next_394 rfl ?_
  refine va_get (D := G.1) (ci := 6) (v := .int 29) (C := RX6) (T := TX6) (N := 42) hx hb hts hiX6 hown hK hP 2 rfl rfl 19 (by decide) kf111 (fun _ h9 => h9) rfl dX6_next_395 ?_
  refine lv_iconst (v := 1) hx hb dX6_next_398 (by decide) ?_
  refine lv_iadd hx hb dX6_next_399 ?_
  refine lv_topi (fun v_22 ev_22 => ?_)
  have ev_22 : v_22 = 30 := ev_22.trans (by decide)
  subst ev_22
  refine va_put (D := G.1) (ci := 6) (v := .int 30) (ty := .int) (C := RX6) (T := TX6) (N := 42) hx hb hts hiX6 tyX6 tyX6_ok nmX6 hown hK hP hD hS 2 rfl rfl 19 (by decide) kf111 (fun _ h9 => h9) rfl (by decide +kernel) rfl rfl (Nat.le_of_ble_eq_true rfl) dX6_next_400 (fun H locs hP hD hS => ?_)
  have hP : va_P G.1 vwCl [(tp, .inl (G.2.1, 160, .inl (gPf tB 40))), (wo, .inl (G.2.1, 96, .inl (gPf tW 96))), (h0, .inr (6, [.int 0, .ref kd, .ref mo, .ref st, .int 0, .ref ro, .ref tp, .int 40, .ref cd, .ref sr, .int 0, .int 0, .int 0, .ref ir, .ref ih, .ref ss, .ref sq, .ref ce, .ref lw, .int 30, .int 29, .int 59, .int 0, .ref wo, .ref he, .int 0, .int 0, .int 4, .ref sk, .ref na, .ref kp, .int 0, .int 0, .int 0, .int 0, .ref gb, .ref go, .ref fa, .ref ga, .int 0, .int 0, .ref vo]))] H := hP
  have hD : va_D A [(tp, .inl (G.2.1, 160, .inl (gPf tB 40))), (wo, .inl (G.2.1, 96, .inl (gPf tW 96))), (h0, .inr (6, [.int 0, .ref kd, .ref mo, .ref st, .int 0, .ref ro, .ref tp, .int 40, .ref cd, .ref sr, .int 0, .int 0, .int 0, .ref ir, .ref ih, .ref ss, .ref sq, .ref ce, .ref lw, .int 30, .int 29, .int 59, .int 0, .ref wo, .ref he, .int 0, .int 0, .int 4, .ref sk, .ref na, .ref kp, .int 0, .int 0, .int 0, .int 0, .ref gb, .ref go, .ref fa, .ref ga, .int 0, .int 0, .ref vo]))] := hD
  have hP9 := hP.sub (ws' := [(tp, .inl (G.2.1, 160, .inl (gPf tB 40))), (wo, .inl (G.2.1, 96, .inl (gPf tW 96))), (h0, .inr (6, [.int 0, .ref kd, .ref mo, .ref st, .int 0, .ref ro, .ref tp, .int 40, .ref cd, .ref sr, .int 0, .int 0, .int 0, .ref ir, .ref ih, .ref ss, .ref sq, .ref ce, .ref lw, .int 30, .int 29, .int 59, .int 0, .ref wo, .ref he, .int 0, .int 0, .int 4, .ref sk, .ref na, .ref kp, .int 0, .int 0, .int 0, .int 0, .ref gb, .ref go, .ref fa, .ref ga, .int 0, .int 0, .ref vo]))]) [0, 1, 2] rfl
  have hD9 := hD.sub (ws' := [(tp, .inl (G.2.1, 160, .inl (gPf tB 40))), (wo, .inl (G.2.1, 96, .inl (gPf tW 96))), (h0, .inr (6, [.int 0, .ref kd, .ref mo, .ref st, .int 0, .ref ro, .ref tp, .int 40, .ref cd, .ref sr, .int 0, .int 0, .int 0, .ref ir, .ref ih, .ref ss, .ref sq, .ref ce, .ref lw, .int 30, .int 29, .int 59, .int 0, .ref wo, .ref he, .int 0, .int 0, .int 4, .ref sk, .ref na, .ref kp, .int 0, .int 0, .int 0, .int 0, .ref gb, .ref go, .ref fa, .ref ga, .int 0, .int 0, .ref vo]))]) [0, 1, 2] (by decide) rfl
  have hpost : (fun (u : Unit) => match u with | _ => True) () := by first | rfl | trivial
  exact W.vret hx hb hr (fun t ht hW => ⟨⟨(), rfl, hpost, by rw [ht]; exact hP9, va_K.moved hW.alike hK, hD9⟩, hS.F ht⟩) hS.2.2 dX6_next_403
abbrev q_X6_unwinds_z49 (G : gG) (h0 he cd kd mo st ro tp sr ir ih ss sq ce lw wo sk na kp gb go fa ga vo : Nat) (A : Nat → Prop) : Array Value → State → Outcome → State → Prop := va_Qv (fun (u : Unit) => match u with | _ => True) (fun (u : Unit) t => match u with | _ => va_P G.1 vwCl [(he, .inl (G.2.1, 200, .inl (upd (fun _ => 0) 0 17))), (cd, .inl (G.2.1, 1200, .inl (upd (upd (upd (upd (fun _ => 0) 0 0) 1 1) 2 17) 3 100001))), (h0, .inr (6, [.int 0, .ref kd, .ref mo, .ref st, .int 0, .ref ro, .ref tp, .int 40, .ref cd, .ref sr, .int 0, .int 0, .int 0, .ref ir, .ref ih, .ref ss, .ref sq, .ref ce, .ref lw, .int 30, .int 29, .int 59, .int 0, .ref wo, .ref he, .int 0, .int 0, .int 4, .ref sk, .ref na, .ref kp, .int 0, .int 0, .int 0, .int 0, .ref gb, .ref go, .ref fa, .ref ga, .int 0, .int 0, .ref vo]))] t.heap ∧ gK G t ∧ va_D A [(he, .inl (G.2.1, 200, .inl (upd (fun _ => 0) 0 17))), (cd, .inl (G.2.1, 1200, .inl (upd (upd (upd (upd (fun _ => 0) 0 0) 1 1) 2 17) 3 100001))), (h0, .inr (6, [.int 0, .ref kd, .ref mo, .ref st, .int 0, .ref ro, .ref tp, .int 40, .ref cd, .ref sr, .int 0, .int 0, .int 0, .ref ir, .ref ih, .ref ss, .ref sq, .ref ce, .ref lw, .int 30, .int 29, .int 59, .int 0, .ref wo, .ref he, .int 0, .int 0, .int 4, .ref sk, .ref na, .ref kp, .int 0, .int 0, .int 0, .int 0, .ref gb, .ref go, .ref fa, .ref ga, .int 0, .int 0, .ref vo]))]) A
set_option maxHeartbeats 4000000 in
set_option maxRecDepth 100000 in
theorem c_X6_unwinds_z49 (l : Launch) (G : gG) (h0 he cd kd mo st ro tp sr ir ih ss sq ce lw wo sk na kp gb go fa ga vo : Nat) (sz : Nat) : Met l yX6_unwinds wsX6_unwinds ({ frames := 0, cells := 0, slots := 0, locals := 0 }) (gPre G [.ref h0, .int 1] [(he, .inl (G.2.1, 200, .inl (upd (fun _ => 0) 0 17))), (cd, .inl (G.2.1, 1200, .inl (upd (upd (upd (upd (fun _ => 0) 0 0) 1 1) 2 17) 3 100001))), (h0, .inr (6, [.int 0, .ref kd, .ref mo, .ref st, .int 0, .ref ro, .ref tp, .int 40, .ref cd, .ref sr, .int 0, .int 0, .int 0, .ref ir, .ref ih, .ref ss, .ref sq, .ref ce, .ref lw, .int 30, .int 29, .int 59, .int 0, .ref wo, .ref he, .int 0, .int 0, .int 4, .ref sk, .ref na, .ref kp, .int 0, .int 0, .int 0, .int 0, .ref gb, .ref go, .ref fa, .ref ga, .int 0, .int 0, .ref vo]))] sz) (q_X6_unwinds_z49 G h0 he cd kd mo st ro tp sr ir ih ss sq ce lw wo sk na kp gb go fa ga vo (va_A [(he, .inl (G.2.1, 200, .inl (upd (fun _ => 0) 0 17))), (cd, .inl (G.2.1, 1200, .inl (upd (upd (upd (upd (fun _ => 0) 0 0) 1 1) 2 17) 3 100001))), (h0, .inr (6, [.int 0, .ref kd, .ref mo, .ref st, .int 0, .ref ro, .ref tp, .int 40, .ref cd, .ref sr, .int 0, .int 0, .int 0, .ref ir, .ref ih, .ref ss, .ref sq, .ref ce, .ref lw, .int 30, .int 29, .int 59, .int 0, .ref wo, .ref he, .int 0, .int 0, .int 4, .ref sk, .ref na, .ref kp, .int 0, .int 0, .int 0, .int 0, .ref gb, .ref go, .ref fa, .ref ga, .int 0, .int 0, .ref vo]))] sz)) 0 0 (va_A [(he, .inl (G.2.1, 200, .inl (upd (fun _ => 0) 0 17))), (cd, .inl (G.2.1, 1200, .inl (upd (upd (upd (upd (fun _ => 0) 0 0) 1 1) 2 17) 3 100001))), (h0, .inr (6, [.int 0, .ref kd, .ref mo, .ref st, .int 0, .ref ro, .ref tp, .int 40, .ref cd, .ref sr, .int 0, .int 0, .int 0, .ref ir, .ref ih, .ref ss, .ref sq, .ref ce, .ref lw, .int 30, .int 29, .int 59, .int 0, .ref wo, .ref he, .int 0, .int 0, .int 4, .ref sk, .ref na, .ref kp, .int 0, .int 0, .int 0, .int 0, .ref gb, .ref go, .ref fa, .ref ga, .int 0, .int 0, .ref vo]))] sz) := by
  refine Met.ofW (cc := cX6_unwinds) (maxL := 3) (ret := none) (by decide) rfl ?_
  intro p e s m args below meth c s₁ B hml hv
  obtain ⟨rfl, hsz, hP, hK, hD0⟩ := hv
  have hx := B.exec
  have hb := B.bytes
  have hr := B.returns
  have hts := atoms_spec (ws := wsX6_unwinds) B.pre
  have hown : s.vm.findClass RX6 = some m.cls := findClass_of_methodNamed B.named
  have hlocks := B.notSynchronized
  subst hsz
  have hD := hD0.self (sz := s.heap.size)
  generalize hAe : va_A [(he, .inl (G.2.1, 200, .inl (upd (fun _ => 0) 0 17))), (cd, .inl (G.2.1, 1200, .inl (upd (upd (upd (upd (fun _ => 0) 0 0) 1 1) 2 17) 3 100001))), (h0, .inr (6, [.int 0, .ref kd, .ref mo, .ref st, .int 0, .ref ro, .ref tp, .int 40, .ref cd, .ref sr, .int 0, .int 0, .int 0, .ref ir, .ref ih, .ref ss, .ref sq, .ref ce, .ref lw, .int 30, .int 29, .int 59, .int 0, .ref wo, .ref he, .int 0, .int 0, .int 4, .ref sk, .ref na, .ref kp, .int 0, .int 0, .int 0, .int 0, .ref gb, .ref go, .ref fa, .ref ga, .int 0, .int 0, .ref vo]))] s.heap.size = A at hD ⊢
  have hA : ∀ q : Nat, s.heap.size ≤ q → A q := fun q h => by rw [← hAe]; exact Or.inr h
  have hS : va_S A s.heap s.heap [] := va_S.rf
  have hP : va_P G.1 vwCl [(he, .inl (G.2.1, 200, .inl (upd (fun _ => 0) 0 17))), (cd, .inl (G.2.1, 1200, .inl (upd (upd (upd (upd (fun _ => 0) 0 0) 1 1) 2 17) 3 100001))), (h0, .inr (6, [.int 0, .ref kd, .ref mo, .ref st, .int 0, .ref ro, .ref tp, .int 40, .ref cd, .ref sr, .int 0, .int 0, .int 0, .ref ir, .ref ih, .ref ss, .ref sq, .ref ce, .ref lw, .int 30, .int 29, .int 59, .int 0, .ref wo, .ref he, .int 0, .int 0, .int 4, .ref sk, .ref na, .ref kp, .int 0, .int 0, .int 0, .int 0, .ref gb, .ref go, .ref fa, .ref ga, .int 0, .int 0, .ref vo]))] s.heap := hP
  have hD : va_D A [(he, .inl (G.2.1, 200, .inl (upd (fun _ => 0) 0 17))), (cd, .inl (G.2.1, 1200, .inl (upd (upd (upd (upd (fun _ => 0) 0 0) 1 1) 2 17) 3 100001))), (h0, .inr (6, [.int 0, .ref kd, .ref mo, .ref st, .int 0, .ref ro, .ref tp, .int 40, .ref cd, .ref sr, .int 0, .int 0, .int 0, .ref ir, .ref ih, .ref ss, .ref sq, .ref ce, .ref lw, .int 30, .int 29, .int 59, .int 0, .ref wo, .ref he, .int 0, .int 0, .int 4, .ref sk, .ref na, .ref kp, .int 0, .int 0, .int 0, .int 0, .ref gb, .ref go, .ref fa, .ref ga, .int 0, .int 0, .ref vo]))] := hD
  have hl := lv_entry ([.ref h0, .int 1]) (n := 3) (Nat.le_of_ble_eq_true rfl)
  rw [lg_entry_eq]
  generalize (lg_sl ([.ref h0, .int 1]) ++ List.replicate (3 - (lg_sl ([.ref h0, .int 1])).length) Slot.unset).toArray = ls at hl ⊢
  have hl : lv_has ls 3 [(0, .ref h0), (1, .int 1)] := hl
  have kf130 := hts (.fieldLink RX6 130 "PebbleInShoeModel" "heldMany" "I") (by decide +kernel)
  have hiX6 := (by decide +kernel : ∀ w ∈ wsX60, w ∈ wsX6_unwinds)
  refine lv_aload_n hx hb dX6_unwinds_0 rfl (lv_at hl 0 rfl) ?_
  refine va_get (D := G.1) (ci := 6) (v := .int 0) (C := RX6) (T := TX6) (N := 42) hx hb hts hiX6 hown hK hP 2 rfl rfl 25 (by decide) kf130 (fun _ h9 => h9) rfl dX6_unwinds_1 ?_
  refine lv_if_le (tgt := 79) hx hb dX6_unwinds_4 (by decide) (fun c_1 => ?_) (fun c_1 => ?_)
  rotate_left
  · exact absurd (by decide) c_1
  have hP9 := hP.sub (ws' := [(he, .inl (G.2.1, 200, .inl (upd (fun _ => 0) 0 17))), (cd, .inl (G.2.1, 1200, .inl (upd (upd (upd (upd (fun _ => 0) 0 0) 1 1) 2 17) 3 100001))), (h0, .inr (6, [.int 0, .ref kd, .ref mo, .ref st, .int 0, .ref ro, .ref tp, .int 40, .ref cd, .ref sr, .int 0, .int 0, .int 0, .ref ir, .ref ih, .ref ss, .ref sq, .ref ce, .ref lw, .int 30, .int 29, .int 59, .int 0, .ref wo, .ref he, .int 0, .int 0, .int 4, .ref sk, .ref na, .ref kp, .int 0, .int 0, .int 0, .int 0, .ref gb, .ref go, .ref fa, .ref ga, .int 0, .int 0, .ref vo]))]) [0, 1, 2] rfl
  have hD9 := hD.sub (ws' := [(he, .inl (G.2.1, 200, .inl (upd (fun _ => 0) 0 17))), (cd, .inl (G.2.1, 1200, .inl (upd (upd (upd (upd (fun _ => 0) 0 0) 1 1) 2 17) 3 100001))), (h0, .inr (6, [.int 0, .ref kd, .ref mo, .ref st, .int 0, .ref ro, .ref tp, .int 40, .ref cd, .ref sr, .int 0, .int 0, .int 0, .ref ir, .ref ih, .ref ss, .ref sq, .ref ce, .ref lw, .int 30, .int 29, .int 59, .int 0, .ref wo, .ref he, .int 0, .int 0, .int 4, .ref sk, .ref na, .ref kp, .int 0, .int 0, .int 0, .int 0, .ref gb, .ref go, .ref fa, .ref ga, .int 0, .int 0, .ref vo]))]) [0, 1, 2] (by decide) rfl
  have hpost : (fun (u : Unit) => match u with | _ => True) () := by first | rfl | trivial
  exact W.vret hx hb hr (fun t ht hW => ⟨⟨(), rfl, hpost, by rw [ht]; exact hP9, va_K.moved hW.alike hK, hD9⟩, hS.F ht⟩) hS.2.2 dX6_unwinds_79
abbrev q_X6_eRead_z41 (G : gG) (h0 cd he kd mo st ro tp sr ir ih ss sq ce lw wo sk na kp gb go fa ga vo : Nat) (A : Nat → Prop) : Array Value → State → Outcome → State → Prop := va_Qi (fun (r : Int32) (u : Unit) => match u with | _ => r = 1) (fun (u : Unit) t => match u with | _ => va_P G.1 vwCl [(cd, .inl (G.2.1, 1200, .inl (upd (upd (upd (upd (fun _ => 0) 0 0) 1 1) 2 17) 3 100001))), (he, .inl (G.2.1, 200, .inl (upd (fun _ => 0) 0 17))), (h0, .inr (6, [.int 0, .ref kd, .ref mo, .ref st, .int 0, .ref ro, .ref tp, .int 40, .ref cd, .ref sr, .int 0, .int 0, .int 0, .ref ir, .ref ih, .ref ss, .ref sq, .ref ce, .ref lw, .int 30, .int 29, .int 59, .int 0, .ref wo, .ref he, .int 0, .int 0, .int 4, .ref sk, .ref na, .ref kp, .int 0, .int 0, .int 0, .int 0, .ref gb, .ref go, .ref fa, .ref ga, .int 0, .int 0, .ref vo])), (tp, .inl (G.2.1, 160, .inl (gPf tB 40))), (wo, .inl (G.2.1, 96, .inl (gPf tW 96)))] t.heap ∧ gK G t ∧ va_D A [(cd, .inl (G.2.1, 1200, .inl (upd (upd (upd (upd (fun _ => 0) 0 0) 1 1) 2 17) 3 100001))), (he, .inl (G.2.1, 200, .inl (upd (fun _ => 0) 0 17))), (h0, .inr (6, [.int 0, .ref kd, .ref mo, .ref st, .int 0, .ref ro, .ref tp, .int 40, .ref cd, .ref sr, .int 0, .int 0, .int 0, .ref ir, .ref ih, .ref ss, .ref sq, .ref ce, .ref lw, .int 30, .int 29, .int 59, .int 0, .ref wo, .ref he, .int 0, .int 0, .int 4, .ref sk, .ref na, .ref kp, .int 0, .int 0, .int 0, .int 0, .ref gb, .ref go, .ref fa, .ref ga, .int 0, .int 0, .ref vo])), (tp, .inl (G.2.1, 160, .inl (gPf tB 40))), (wo, .inl (G.2.1, 96, .inl (gPf tW 96)))]) A
set_option maxHeartbeats 4000000 in
set_option maxRecDepth 100000 in
theorem c_X6_eRead_z41 (l : Launch) (G : gG) (h0 cd he kd mo st ro tp sr ir ih ss sq ce lw wo sk na kp gb go fa ga vo : Nat) (sz : Nat) : Met l yX6_eRead wsX6_eRead ({ frames := 2, cells := 0, slots := 0, locals := 44 }) (gPre G [.ref h0] [(cd, .inl (G.2.1, 1200, .inl (upd (upd (upd (fun _ => 0) 0 0) 1 1) 2 17))), (he, .inl (G.2.1, 200, .inl (upd (fun _ => 0) 0 17))), (h0, .inr (6, [.int 0, .ref kd, .ref mo, .ref st, .int 0, .ref ro, .ref tp, .int 40, .ref cd, .ref sr, .int 0, .int 0, .int 0, .ref ir, .ref ih, .ref ss, .ref sq, .ref ce, .ref lw, .int 26, .int 21, .int 3, .int 1, .ref wo, .ref he, .int 0, .int 0, .int 3, .ref sk, .ref na, .ref kp, .int 0, .int 0, .int 0, .int 0, .ref gb, .ref go, .ref fa, .ref ga, .int 0, .int 0, .ref vo])), (tp, .inl (G.2.1, 160, .inl (gPf tB 40))), (wo, .inl (G.2.1, 96, .inl (gPf tW 96)))] sz) (q_X6_eRead_z41 G h0 cd he kd mo st ro tp sr ir ih ss sq ce lw wo sk na kp gb go fa ga vo (va_A [(cd, .inl (G.2.1, 1200, .inl (upd (upd (upd (fun _ => 0) 0 0) 1 1) 2 17))), (he, .inl (G.2.1, 200, .inl (upd (fun _ => 0) 0 17))), (h0, .inr (6, [.int 0, .ref kd, .ref mo, .ref st, .int 0, .ref ro, .ref tp, .int 40, .ref cd, .ref sr, .int 0, .int 0, .int 0, .ref ir, .ref ih, .ref ss, .ref sq, .ref ce, .ref lw, .int 26, .int 21, .int 3, .int 1, .ref wo, .ref he, .int 0, .int 0, .int 3, .ref sk, .ref na, .ref kp, .int 0, .int 0, .int 0, .int 0, .ref gb, .ref go, .ref fa, .ref ga, .int 0, .int 0, .ref vo])), (tp, .inl (G.2.1, 160, .inl (gPf tB 40))), (wo, .inl (G.2.1, 96, .inl (gPf tW 96)))] sz)) 0 0 (va_A [(cd, .inl (G.2.1, 1200, .inl (upd (upd (upd (fun _ => 0) 0 0) 1 1) 2 17))), (he, .inl (G.2.1, 200, .inl (upd (fun _ => 0) 0 17))), (h0, .inr (6, [.int 0, .ref kd, .ref mo, .ref st, .int 0, .ref ro, .ref tp, .int 40, .ref cd, .ref sr, .int 0, .int 0, .int 0, .ref ir, .ref ih, .ref ss, .ref sq, .ref ce, .ref lw, .int 26, .int 21, .int 3, .int 1, .ref wo, .ref he, .int 0, .int 0, .int 3, .ref sk, .ref na, .ref kp, .int 0, .int 0, .int 0, .int 0, .ref gb, .ref go, .ref fa, .ref ga, .int 0, .int 0, .ref vo])), (tp, .inl (G.2.1, 160, .inl (gPf tB 40))), (wo, .inl (G.2.1, 96, .inl (gPf tW 96)))] sz) := by
  refine Met.ofW (cc := cX6_eRead) (maxL := 4) (ret := (some .boolean)) (by decide) rfl ?_
  intro p e s m args below meth c s₁ B hml hv
  obtain ⟨rfl, hsz, hP, hK, hD0⟩ := hv
  have hx := B.exec
  have hb := B.bytes
  have hr := B.returns
  have hts := atoms_spec (ws := wsX6_eRead) B.pre
  have hown : s.vm.findClass RX6 = some m.cls := findClass_of_methodNamed B.named
  have hlocks := B.notSynchronized
  subst hsz
  have hD := hD0.self (sz := s.heap.size)
  generalize hAe : va_A [(cd, .inl (G.2.1, 1200, .inl (upd (upd (upd (fun _ => 0) 0 0) 1 1) 2 17))), (he, .inl (G.2.1, 200, .inl (upd (fun _ => 0) 0 17))), (h0, .inr (6, [.int 0, .ref kd, .ref mo, .ref st, .int 0, .ref ro, .ref tp, .int 40, .ref cd, .ref sr, .int 0, .int 0, .int 0, .ref ir, .ref ih, .ref ss, .ref sq, .ref ce, .ref lw, .int 26, .int 21, .int 3, .int 1, .ref wo, .ref he, .int 0, .int 0, .int 3, .ref sk, .ref na, .ref kp, .int 0, .int 0, .int 0, .int 0, .ref gb, .ref go, .ref fa, .ref ga, .int 0, .int 0, .ref vo])), (tp, .inl (G.2.1, 160, .inl (gPf tB 40))), (wo, .inl (G.2.1, 96, .inl (gPf tW 96)))] s.heap.size = A at hD ⊢
  have hA : ∀ q : Nat, s.heap.size ≤ q → A q := fun q h => by rw [← hAe]; exact Or.inr h
  have hS : va_S A s.heap s.heap [] := va_S.rf
  have hP : va_P G.1 vwCl [(cd, .inl (G.2.1, 1200, .inl (upd (upd (upd (fun _ => 0) 0 0) 1 1) 2 17))), (he, .inl (G.2.1, 200, .inl (upd (fun _ => 0) 0 17))), (h0, .inr (6, [.int 0, .ref kd, .ref mo, .ref st, .int 0, .ref ro, .ref tp, .int 40, .ref cd, .ref sr, .int 0, .int 0, .int 0, .ref ir, .ref ih, .ref ss, .ref sq, .ref ce, .ref lw, .int 26, .int 21, .int 3, .int 1, .ref wo, .ref he, .int 0, .int 0, .int 3, .ref sk, .ref na, .ref kp, .int 0, .int 0, .int 0, .int 0, .ref gb, .ref go, .ref fa, .ref ga, .int 0, .int 0, .ref vo])), (tp, .inl (G.2.1, 160, .inl (gPf tB 40))), (wo, .inl (G.2.1, 96, .inl (gPf tW 96)))] s.heap := hP
  have hD : va_D A [(cd, .inl (G.2.1, 1200, .inl (upd (upd (upd (fun _ => 0) 0 0) 1 1) 2 17))), (he, .inl (G.2.1, 200, .inl (upd (fun _ => 0) 0 17))), (h0, .inr (6, [.int 0, .ref kd, .ref mo, .ref st, .int 0, .ref ro, .ref tp, .int 40, .ref cd, .ref sr, .int 0, .int 0, .int 0, .ref ir, .ref ih, .ref ss, .ref sq, .ref ce, .ref lw, .int 26, .int 21, .int 3, .int 1, .ref wo, .ref he, .int 0, .int 0, .int 3, .ref sk, .ref na, .ref kp, .int 0, .int 0, .int 0, .int 0, .ref gb, .ref go, .ref fa, .ref ga, .int 0, .int 0, .ref vo])), (tp, .inl (G.2.1, 160, .inl (gPf tB 40))), (wo, .inl (G.2.1, 96, .inl (gPf tW 96)))] := hD
  have hl := lv_entry ([.ref h0]) (n := 4) (Nat.le_of_ble_eq_true rfl)
  rw [lg_entry_eq]
  generalize (lg_sl ([.ref h0]) ++ List.replicate (4 - (lg_sl ([.ref h0])).length) Slot.unset).toArray = ls at hl ⊢
  have hl : lv_has ls 4 [(0, .ref h0)] := hl
  have kf130 := hts (.fieldLink RX6 130 "PebbleInShoeModel" "heldMany" "I") (by decide +kernel)
  have hiX6 := (by decide +kernel : ∀ w ∈ wsX60, w ∈ wsX6_eRead)
  have kf137 := hts (.fieldLink RX6 137 "PebbleInShoeModel" "opens" "I") (by decide +kernel)
  have kf117 := hts (.fieldLink RX6 117 "PebbleInShoeModel" "token" "I") (by decide +kernel)
  have kf120 := hts (.fieldLink RX6 120 "PebbleInShoeModel" "value" "I") (by decide +kernel)
  refine lv_aload_n hx hb dX6_eRead_0 rfl (lv_at hl 0 rfl) ?_
  refine lv_iconst (v := 0) hx hb dX6_eRead_1 (by decide) ?_
  refine va_put (D := G.1) (ci := 6) (v := .int 0) (ty := .int) (C := RX6) (T := TX6) (N := 42) hx hb hts hiX6 tyX6 tyX6_ok nmX6 hown hK hP hD hS 2 rfl rfl 25 (by decide) kf130 (fun _ h9 => h9) rfl (by decide +kernel) rfl rfl (Nat.le_of_ble_eq_true rfl) dX6_eRead_2 (fun H locs hP hD hS => ?_)
  have hP : va_P G.1 vwCl [(cd, .inl (G.2.1, 1200, .inl (upd (upd (upd (fun _ => 0) 0 0) 1 1) 2 17))), (he, .inl (G.2.1, 200, .inl (upd (fun _ => 0) 0 17))), (h0, .inr (6, [.int 0, .ref kd, .ref mo, .ref st, .int 0, .ref ro, .ref tp, .int 40, .ref cd, .ref sr, .int 0, .int 0, .int 0, .ref ir, .ref ih, .ref ss, .ref sq, .ref ce, .ref lw, .int 26, .int 21, .int 3, .int 1, .ref wo, .ref he, .int 0, .int 0, .int 3, .ref sk, .ref na, .ref kp, .int 0, .int 0, .int 0, .int 0, .ref gb, .ref go, .ref fa, .ref ga, .int 0, .int 0, .ref vo])), (tp, .inl (G.2.1, 160, .inl (gPf tB 40))), (wo, .inl (G.2.1, 96, .inl (gPf tW 96)))] H := hP
  have hD : va_D A [(cd, .inl (G.2.1, 1200, .inl (upd (upd (upd (fun _ => 0) 0 0) 1 1) 2 17))), (he, .inl (G.2.1, 200, .inl (upd (fun _ => 0) 0 17))), (h0, .inr (6, [.int 0, .ref kd, .ref mo, .ref st, .int 0, .ref ro, .ref tp, .int 40, .ref cd, .ref sr, .int 0, .int 0, .int 0, .ref ir, .ref ih, .ref ss, .ref sq, .ref ce, .ref lw, .int 26, .int 21, .int 3, .int 1, .ref wo, .ref he, .int 0, .int 0, .int 3, .ref sk, .ref na, .ref kp, .int 0, .int 0, .int 0, .int 0, .ref gb, .ref go, .ref fa, .ref ga, .int 0, .int 0, .ref vo])), (tp, .inl (G.2.1, 160, .inl (gPf tB 40))), (wo, .inl (G.2.1, 96, .inl (gPf tW 96)))] := hD
  refine lv_aload_n hx hb dX6_eRead_5 rfl (lv_at hl 0 rfl) ?_
  refine lv_iconst (v := 0) hx hb dX6_eRead_6 (by decide) ?_
  refine va_put (D := G.1) (ci := 6) (v := .int 0) (ty := .int) (C := RX6) (T := TX6) (N := 42) hx hb hts hiX6 tyX6 tyX6_ok nmX6 hown hK hP hD hS 2 rfl rfl 26 (by decide) kf137 (fun _ h9 => h9) rfl (by decide +kernel) rfl rfl (Nat.le_of_ble_eq_true rfl) dX6_eRead_7 (fun H locs hP hD hS => ?_)
  have hP : va_P G.1 vwCl [(cd, .inl (G.2.1, 1200, .inl (upd (upd (upd (fun _ => 0) 0 0) 1 1) 2 17))), (he, .inl (G.2.1, 200, .inl (upd (fun _ => 0) 0 17))), (h0, .inr (6, [.int 0, .ref kd, .ref mo, .ref st, .int 0, .ref ro, .ref tp, .int 40, .ref cd, .ref sr, .int 0, .int 0, .int 0, .ref ir, .ref ih, .ref ss, .ref sq, .ref ce, .ref lw, .int 26, .int 21, .int 3, .int 1, .ref wo, .ref he, .int 0, .int 0, .int 3, .ref sk, .ref na, .ref kp, .int 0, .int 0, .int 0, .int 0, .ref gb, .ref go, .ref fa, .ref ga, .int 0, .int 0, .ref vo])), (tp, .inl (G.2.1, 160, .inl (gPf tB 40))), (wo, .inl (G.2.1, 96, .inl (gPf tW 96)))] H := hP
  have hD : va_D A [(cd, .inl (G.2.1, 1200, .inl (upd (upd (upd (fun _ => 0) 0 0) 1 1) 2 17))), (he, .inl (G.2.1, 200, .inl (upd (fun _ => 0) 0 17))), (h0, .inr (6, [.int 0, .ref kd, .ref mo, .ref st, .int 0, .ref ro, .ref tp, .int 40, .ref cd, .ref sr, .int 0, .int 0, .int 0, .ref ir, .ref ih, .ref ss, .ref sq, .ref ce, .ref lw, .int 26, .int 21, .int 3, .int 1, .ref wo, .ref he, .int 0, .int 0, .int 3, .ref sk, .ref na, .ref kp, .int 0, .int 0, .int 0, .int 0, .ref gb, .ref go, .ref fa, .ref ga, .int 0, .int 0, .ref vo])), (tp, .inl (G.2.1, 160, .inl (gPf tB 40))), (wo, .inl (G.2.1, 96, .inl (gPf tW 96)))] := hD
  refine lv_iconst (v := 1) hx hb dX6_eRead_10 (by decide) ?_
  refine lv_istore_n (lv' := [(1, .int 1), (0, .ref h0)]) hx hb dX6_eRead_11 rfl hl (by decide) rfl (fun ls hl => ?_)
  refine lv_iconst (v := 1) hx hb dX6_eRead_12 (by decide) ?_
  refine lv_istore_n (lv' := [(2, .int 1), (1, .int 1), (0, .ref h0)]) hx hb dX6_eRead_13 rfl hl (by decide) rfl (fun ls hl => ?_)
  refine lv_aload_n hx hb dX6_eRead_14 rfl (lv_at hl 2 rfl) ?_
  have hPc : va_P G.1 vwCl [(h0, .inr (6, [.int 0, .ref kd, .ref mo, .ref st, .int 0, .ref ro, .ref tp, .int 40, .ref cd, .ref sr, .int 0, .int 0, .int 0, .ref ir, .ref ih, .ref ss, .ref sq, .ref ce, .ref lw, .int 26, .int 21, .int 3, .int 1, .ref wo, .ref he, .int 0, .int 0, .int 3, .ref sk, .ref na, .ref kp, .int 0, .int 0, .int 0, .int 0, .ref gb, .ref go, .ref fa, .ref ga, .int 0, .int 0, .ref vo])), (tp, .inl (G.2.1, 160, .inl (gPf tB 40))), (wo, .inl (G.2.1, 96, .inl (gPf tW 96)))] H := hP.sub [2, 3, 4] rfl
  have hDc : va_D A [(h0, .inr (6, [.int 0, .ref kd, .ref mo, .ref st, .int 0, .ref ro, .ref tp, .int 40, .ref cd, .ref sr, .int 0, .int 0, .int 0, .ref ir, .ref ih, .ref ss, .ref sq, .ref ce, .ref lw, .int 26, .int 21, .int 3, .int 1, .ref wo, .ref he, .int 0, .int 0, .int 3, .ref sk, .ref na, .ref kp, .int 0, .int 0, .int 0, .int 0, .ref gb, .ref go, .ref fa, .ref ga, .int 0, .int 0, .ref vo])), (tp, .inl (G.2.1, 160, .inl (gPf tB 40))), (wo, .inl (G.2.1, 96, .inl (gPf tW 96)))] := hD.sub [2, 3, 4] (by decide) rfl
  have hFc := va_free (wc := [(h0, .inr (6, [.int 0, .ref kd, .ref mo, .ref st, .int 0, .ref ro, .ref tp, .int 40, .ref cd, .ref sr, .int 0, .int 0, .int 0, .ref ir, .ref ih, .ref ss, .ref sq, .ref ce, .ref lw, .int 26, .int 21, .int 3, .int 1, .ref wo, .ref he, .int 0, .int 0, .int 3, .ref sk, .ref na, .ref kp, .int 0, .int 0, .int 0, .int 0, .ref gb, .ref go, .ref fa, .ref ga, .int 0, .int 0, .ref vo])), (tp, .inl (G.2.1, 160, .inl (gPf tB 40))), (wo, .inl (G.2.1, 96, .inl (gPf tW 96)))]) hD hS hA [2, 3, 4] rfl
  refine va_callv (va_runV (As := []) (rest := []) ⟨hx, hb, hml, hown, hts⟩ (c_X6_next_z42 l G h0 kd mo st ro tp cd sr ir ih ss sq ce lw wo he sk na kp gb go fa ga vo H.size) (cwV 0 hts gX6_eRead_X6_next rfl rfl rfl (by decide +kernel) ⟨Nat.le_of_ble_eq_true rfl, Nat.le_of_ble_eq_true rfl⟩) ⟨gPre_blind, va_recv hK hPc (ci := 6) (q0 := 0) rfl rfl, fun U hU hW => gPre_of hU hW hK hPc hDc⟩ rfl rfl hl.1 rfl (lv_room (Nat.le_of_ble_eq_true rfl)) dX6_eRead_15 ⟨Nat.le_of_ble_eq_true rfl, Nat.le_of_ble_eq_true rfl⟩) hS (fun q _ h => hFc q h) hFc (fun u t H locs ht hvm w_2 hB hz1 hk1 hS => ?_)
  obtain ⟨hP1, hK1, hD1⟩ := hB
  rw [ht] at hP1
  have hP1 : va_P G.1 vwCl [(h0, .inr (6, [.int 0, .ref kd, .ref mo, .ref st, .int 0, .ref ro, .ref tp, .int 40, .ref cd, .ref sr, .int 0, .int 0, .int 0, .ref ir, .ref ih, .ref ss, .ref sq, .ref ce, .ref lw, .int 28, .int 27, .int 1, .int 1, .ref wo, .ref he, .int 0, .int 0, .int 3, .ref sk, .ref na, .ref kp, .int 0, .int 0, .int 0, .int 0, .ref gb, .ref go, .ref fa, .ref ga, .int 0, .int 0, .ref vo])), (tp, .inl (G.2.1, 160, .inl (gPf tB 40))), (wo, .inl (G.2.1, 96, .inl (gPf tW 96)))] H := hP1
  have hD1 : va_D (va_A [(h0, .inr (6, [.int 0, .ref kd, .ref mo, .ref st, .int 0, .ref ro, .ref tp, .int 40, .ref cd, .ref sr, .int 0, .int 0, .int 0, .ref ir, .ref ih, .ref ss, .ref sq, .ref ce, .ref lw, .int 26, .int 21, .int 3, .int 1, .ref wo, .ref he, .int 0, .int 0, .int 3, .ref sk, .ref na, .ref kp, .int 0, .int 0, .int 0, .int 0, .ref gb, .ref go, .ref fa, .ref ga, .int 0, .int 0, .ref vo])), (tp, .inl (G.2.1, 160, .inl (gPf tB 40))), (wo, .inl (G.2.1, 96, .inl (gPf tW 96)))] _) [(h0, .inr (6, [.int 0, .ref kd, .ref mo, .ref st, .int 0, .ref ro, .ref tp, .int 40, .ref cd, .ref sr, .int 0, .int 0, .int 0, .ref ir, .ref ih, .ref ss, .ref sq, .ref ce, .ref lw, .int 28, .int 27, .int 1, .int 1, .ref wo, .ref he, .int 0, .int 0, .int 3, .ref sk, .ref na, .ref kp, .int 0, .int 0, .int 0, .int 0, .ref gb, .ref go, .ref fa, .ref ga, .int 0, .int 0, .ref vo])), (tp, .inl (G.2.1, 160, .inl (gPf tB 40))), (wo, .inl (G.2.1, 96, .inl (gPf tW 96)))] := hD1
  obtain ⟨hP, hD⟩ := va_join (wr := [(cd, .inl (G.2.1, 1200, .inl (upd (upd (upd (fun _ => 0) 0 0) 1 1) 2 17))), (he, .inl (G.2.1, 200, .inl (upd (fun _ => 0) 0 17)))]) (w1 := [(h0, .inr (6, [.int 0, .ref kd, .ref mo, .ref st, .int 0, .ref ro, .ref tp, .int 40, .ref cd, .ref sr, .int 0, .int 0, .int 0, .ref ir, .ref ih, .ref ss, .ref sq, .ref ce, .ref lw, .int 28, .int 27, .int 1, .int 1, .ref wo, .ref he, .int 0, .int 0, .int 3, .ref sk, .ref na, .ref kp, .int 0, .int 0, .int 0, .int 0, .ref gb, .ref go, .ref fa, .ref ga, .int 0, .int 0, .ref vo])), (tp, .inl (G.2.1, 160, .inl (gPf tB 40))), (wo, .inl (G.2.1, 96, .inl (gPf tW 96)))]) hP hD [2, 3, 4] [0, 1] rfl rfl (by decide) (by decide) hk1 hFc hP1 hD1
  have hP : va_P G.1 vwCl [(cd, .inl (G.2.1, 1200, .inl (upd (upd (upd (fun _ => 0) 0 0) 1 1) 2 17))), (he, .inl (G.2.1, 200, .inl (upd (fun _ => 0) 0 17))), (h0, .inr (6, [.int 0, .ref kd, .ref mo, .ref st, .int 0, .ref ro, .ref tp, .int 40, .ref cd, .ref sr, .int 0, .int 0, .int 0, .ref ir, .ref ih, .ref ss, .ref sq, .ref ce, .ref lw, .int 28, .int 27, .int 1, .int 1, .ref wo, .ref he, .int 0, .int 0, .int 3, .ref sk, .ref na, .ref kp, .int 0, .int 0, .int 0, .int 0, .ref gb, .ref go, .ref fa, .ref ga, .int 0, .int 0, .ref vo])), (tp, .inl (G.2.1, 160, .inl (gPf tB 40))), (wo, .inl (G.2.1, 96, .inl (gPf tW 96)))] H := hP
  have hD : va_D A [(cd, .inl (G.2.1, 1200, .inl (upd (upd (upd (fun _ => 0) 0 0) 1 1) 2 17))), (he, .inl (G.2.1, 200, .inl (upd (fun _ => 0) 0 17))), (h0, .inr (6, [.int 0, .ref kd, .ref mo, .ref st, .int 0, .ref ro, .ref tp, .int 40, .ref cd, .ref sr, .int 0, .int 0, .int 0, .ref ir, .ref ih, .ref ss, .ref sq, .ref ce, .ref lw, .int 28, .int 27, .int 1, .int 1, .ref wo, .ref he, .int 0, .int 0, .int 3, .ref sk, .ref na, .ref kp, .int 0, .int 0, .int 0, .int 0, .ref gb, .ref go, .ref fa, .ref ga, .int 0, .int 0, .ref vo])), (tp, .inl (G.2.1, 160, .inl (gPf tB 40))), (wo, .inl (G.2.1, 96, .inl (gPf tW 96)))] := hD
  refine lv_iload_n hx hb dX6_eRead_18 rfl (lv_at hl 1 rfl) ?_
  refine lv_if_eq (tgt := 150) hx hb dX6_eRead_19 (by decide) (fun c_3 => ?_) (fun c_3 => ?_)
  · exact absurd c_3 (by decide)
  refine lv_aload_n hx hb dX6_eRead_22 rfl (lv_at hl 2 rfl) ?_
  refine va_get (D := G.1) (ci := 6) (v := .int 1) (C := RX6) (T := TX6) (N := 42) hx hb hts hiX6 hown hK hP 2 rfl rfl 21 (by decide) kf117 (fun _ h9 => h9) rfl dX6_eRead_23 ?_
  refine lv_iconst (v := 1) hx hb dX6_eRead_26 (by decide) ?_
  refine lv_icmp_eq (tgt := 38) hx hb dX6_eRead_27 (by decide) (fun c_4 => ?_) (fun c_4 => ?_)
  rotate_left
  · exact absurd (by decide) c_4
  refine lv_aload_n hx hb dX6_eRead_38 rfl (lv_at hl 2 rfl) ?_
  refine lv_aload_n hx hb dX6_eRead_39 rfl (lv_at hl 2 rfl) ?_
  refine va_get (D := G.1) (ci := 6) (v := .int 1) (C := RX6) (T := TX6) (N := 42) hx hb hts hiX6 hown hK hP 2 rfl rfl 21 (by decide) kf117 (fun _ h9 => h9) rfl dX6_eRead_40 ?_
  refine lv_iconst (v := 1) hx hb dX6_eRead_43 (by decide) ?_
  refine lv_icmp_ne (tgt := 57) hx hb dX6_eRead_44 (by decide) (fun c_5 => ?_) (fun c_5 => ?_)
  · exact absurd (by decide) c_5
  refine lv_ldc hx hb hown (hts (.constant RX6 153 (100000)) (by decide +kernel)) dX6_eRead_47 ?_
  refine lv_aload_n hx hb dX6_eRead_49 rfl (lv_at hl 2 rfl) ?_
  refine va_get (D := G.1) (ci := 6) (v := .int 1) (C := RX6) (T := TX6) (N := 42) hx hb hts hiX6 hown hK hP 2 rfl rfl 22 (by decide) kf120 (fun _ h9 => h9) rfl dX6_eRead_50 ?_
  refine lv_iadd hx hb dX6_eRead_53 ?_
  refine lv_topi (fun v_6 ev_6 => ?_)
  have ev_6 : v_6 = 100001 := ev_6.trans (by decide)
  subst ev_6
  refine lv_goto (tgt := 61) hx hb dX6_eRead_54 (by decide) ?_
  have hPc : va_P G.1 vwCl [(cd, .inl (G.2.1, 1200, .inl (upd (upd (upd (fun _ => 0) 0 0) 1 1) 2 17))), (h0, .inr (6, [.int 0, .ref kd, .ref mo, .ref st, .int 0, .ref ro, .ref tp, .int 40, .ref cd, .ref sr, .int 0, .int 0, .int 0, .ref ir, .ref ih, .ref ss, .ref sq, .ref ce, .ref lw, .int 28, .int 27, .int 1, .int 1, .ref wo, .ref he, .int 0, .int 0, .int 3, .ref sk, .ref na, .ref kp, .int 0, .int 0, .int 0, .int 0, .ref gb, .ref go, .ref fa, .ref ga, .int 0, .int 0, .ref vo]))] H := hP.sub [0, 2] rfl
  have hDc : va_D A [(cd, .inl (G.2.1, 1200, .inl (upd (upd (upd (fun _ => 0) 0 0) 1 1) 2 17))), (h0, .inr (6, [.int 0, .ref kd, .ref mo, .ref st, .int 0, .ref ro, .ref tp, .int 40, .ref cd, .ref sr, .int 0, .int 0, .int 0, .ref ir, .ref ih, .ref ss, .ref sq, .ref ce, .ref lw, .int 28, .int 27, .int 1, .int 1, .ref wo, .ref he, .int 0, .int 0, .int 3, .ref sk, .ref na, .ref kp, .int 0, .int 0, .int 0, .int 0, .ref gb, .ref go, .ref fa, .ref ga, .int 0, .int 0, .ref vo]))] := hD.sub [0, 2] (by decide) rfl
  have hFc := va_free (wc := [(cd, .inl (G.2.1, 1200, .inl (upd (upd (upd (fun _ => 0) 0 0) 1 1) 2 17))), (h0, .inr (6, [.int 0, .ref kd, .ref mo, .ref st, .int 0, .ref ro, .ref tp, .int 40, .ref cd, .ref sr, .int 0, .int 0, .int 0, .ref ir, .ref ih, .ref ss, .ref sq, .ref ce, .ref lw, .int 28, .int 27, .int 1, .int 1, .ref wo, .ref he, .int 0, .int 0, .int 3, .ref sk, .ref na, .ref kp, .int 0, .int 0, .int 0, .int 0, .ref gb, .ref go, .ref fa, .ref ga, .int 0, .int 0, .ref vo]))]) hD hS hA [0, 2] rfl
  refine va_callv (va_runV (As := [.int 100001]) (rest := []) ⟨hx, hb, hml, hown, hts⟩ (c_X6_puts_z46 l G h0 cd kd mo st ro tp sr ir ih ss sq ce lw wo he sk na kp gb go fa ga vo H.size) (cwV 1 hts gX6_eRead_X6_puts rfl rfl rfl (by decide +kernel) ⟨Nat.le_of_ble_eq_true rfl, Nat.le_of_ble_eq_true rfl⟩) ⟨gPre_blind, va_recv hK hPc (ci := 6) (q0 := 1) rfl rfl, fun U hU hW => gPre_of hU hW hK hPc hDc⟩ rfl rfl hl.1 rfl (lv_room (Nat.le_of_ble_eq_true rfl)) dX6_eRead_61 ⟨Nat.le_of_ble_eq_true rfl, Nat.le_of_ble_eq_true rfl⟩) hS (fun q _ h => hFc q h) hFc (fun u t H locs ht hvm w_8 hB hz1 hk1 hS => ?_)
  obtain ⟨hP1, hK1, hD1⟩ := hB
  rw [ht] at hP1
  have hP1 : va_P G.1 vwCl [(cd, .inl (G.2.1, 1200, .inl (upd (upd (upd (upd (fun _ => 0) 0 0) 1 1) 2 17) 3 100001))), (h0, .inr (6, [.int 0, .ref kd, .ref mo, .ref st, .int 0, .ref ro, .ref tp, .int 40, .ref cd, .ref sr, .int 0, .int 0, .int 0, .ref ir, .ref ih, .ref ss, .ref sq, .ref ce, .ref lw, .int 28, .int 27, .int 1, .int 1, .ref wo, .ref he, .int 0, .int 0, .int 4, .ref sk, .ref na, .ref kp, .int 0, .int 0, .int 0, .int 0, .ref gb, .ref go, .ref fa, .ref ga, .int 0, .int 0, .ref vo]))] H := hP1
  have hD1 : va_D (va_A [(cd, .inl (G.2.1, 1200, .inl (upd (upd (upd (fun _ => 0) 0 0) 1 1) 2 17))), (h0, .inr (6, [.int 0, .ref kd, .ref mo, .ref st, .int 0, .ref ro, .ref tp, .int 40, .ref cd, .ref sr, .int 0, .int 0, .int 0, .ref ir, .ref ih, .ref ss, .ref sq, .ref ce, .ref lw, .int 28, .int 27, .int 1, .int 1, .ref wo, .ref he, .int 0, .int 0, .int 3, .ref sk, .ref na, .ref kp, .int 0, .int 0, .int 0, .int 0, .ref gb, .ref go, .ref fa, .ref ga, .int 0, .int 0, .ref vo]))] _) [(cd, .inl (G.2.1, 1200, .inl (upd (upd (upd (upd (fun _ => 0) 0 0) 1 1) 2 17) 3 100001))), (h0, .inr (6, [.int 0, .ref kd, .ref mo, .ref st, .int 0, .ref ro, .ref tp, .int 40, .ref cd, .ref sr, .int 0, .int 0, .int 0, .ref ir, .ref ih, .ref ss, .ref sq, .ref ce, .ref lw, .int 28, .int 27, .int 1, .int 1, .ref wo, .ref he, .int 0, .int 0, .int 4, .ref sk, .ref na, .ref kp, .int 0, .int 0, .int 0, .int 0, .ref gb, .ref go, .ref fa, .ref ga, .int 0, .int 0, .ref vo]))] := hD1
  obtain ⟨hP, hD⟩ := va_join (wr := [(he, .inl (G.2.1, 200, .inl (upd (fun _ => 0) 0 17))), (tp, .inl (G.2.1, 160, .inl (gPf tB 40))), (wo, .inl (G.2.1, 96, .inl (gPf tW 96)))]) (w1 := [(cd, .inl (G.2.1, 1200, .inl (upd (upd (upd (upd (fun _ => 0) 0 0) 1 1) 2 17) 3 100001))), (h0, .inr (6, [.int 0, .ref kd, .ref mo, .ref st, .int 0, .ref ro, .ref tp, .int 40, .ref cd, .ref sr, .int 0, .int 0, .int 0, .ref ir, .ref ih, .ref ss, .ref sq, .ref ce, .ref lw, .int 28, .int 27, .int 1, .int 1, .ref wo, .ref he, .int 0, .int 0, .int 4, .ref sk, .ref na, .ref kp, .int 0, .int 0, .int 0, .int 0, .ref gb, .ref go, .ref fa, .ref ga, .int 0, .int 0, .ref vo]))]) hP hD [0, 2] [1, 3, 4] rfl rfl (by decide) (by decide) hk1 hFc hP1 hD1
  have hP : va_P G.1 vwCl [(he, .inl (G.2.1, 200, .inl (upd (fun _ => 0) 0 17))), (tp, .inl (G.2.1, 160, .inl (gPf tB 40))), (wo, .inl (G.2.1, 96, .inl (gPf tW 96))), (cd, .inl (G.2.1, 1200, .inl (upd (upd (upd (upd (fun _ => 0) 0 0) 1 1) 2 17) 3 100001))), (h0, .inr (6, [.int 0, .ref kd, .ref mo, .ref st, .int 0, .ref ro, .ref tp, .int 40, .ref cd, .ref sr, .int 0, .int 0, .int 0, .ref ir, .ref ih, .ref ss, .ref sq, .ref ce, .ref lw, .int 28, .int 27, .int 1, .int 1, .ref wo, .ref he, .int 0, .int 0, .int 4, .ref sk, .ref na, .ref kp, .int 0, .int 0, .int 0, .int 0, .ref gb, .ref go, .ref fa, .ref ga, .int 0, .int 0, .ref vo]))] H := hP
  have hD : va_D A [(he, .inl (G.2.1, 200, .inl (upd (fun _ => 0) 0 17))), (tp, .inl (G.2.1, 160, .inl (gPf tB 40))), (wo, .inl (G.2.1, 96, .inl (gPf tW 96))), (cd, .inl (G.2.1, 1200, .inl (upd (upd (upd (upd (fun _ => 0) 0 0) 1 1) 2 17) 3 100001))), (h0, .inr (6, [.int 0, .ref kd, .ref mo, .ref st, .int 0, .ref ro, .ref tp, .int 40, .ref cd, .ref sr, .int 0, .int 0, .int 0, .ref ir, .ref ih, .ref ss, .ref sq, .ref ce, .ref lw, .int 28, .int 27, .int 1, .int 1, .ref wo, .ref he, .int 0, .int 0, .int 4, .ref sk, .ref na, .ref kp, .int 0, .int 0, .int 0, .int 0, .ref gb, .ref go, .ref fa, .ref ga, .int 0, .int 0, .ref vo]))] := hD
  refine lv_aload_n hx hb dX6_eRead_64 rfl (lv_at hl 2 rfl) ?_
  refine lv_bipush (v := 7) hx hb dX6_eRead_65 (by decide) ?_
  have hPc : va_P G.1 vwCl [(he, .inl (G.2.1, 200, .inl (upd (fun _ => 0) 0 17))), (cd, .inl (G.2.1, 1200, .inl (upd (upd (upd (upd (fun _ => 0) 0 0) 1 1) 2 17) 3 100001))), (h0, .inr (6, [.int 0, .ref kd, .ref mo, .ref st, .int 0, .ref ro, .ref tp, .int 40, .ref cd, .ref sr, .int 0, .int 0, .int 0, .ref ir, .ref ih, .ref ss, .ref sq, .ref ce, .ref lw, .int 28, .int 27, .int 1, .int 1, .ref wo, .ref he, .int 0, .int 0, .int 4, .ref sk, .ref na, .ref kp, .int 0, .int 0, .int 0, .int 0, .ref gb, .ref go, .ref fa, .ref ga, .int 0, .int 0, .ref vo]))] H := hP.sub [0, 3, 4] rfl
  have hDc : va_D A [(he, .inl (G.2.1, 200, .inl (upd (fun _ => 0) 0 17))), (cd, .inl (G.2.1, 1200, .inl (upd (upd (upd (upd (fun _ => 0) 0 0) 1 1) 2 17) 3 100001))), (h0, .inr (6, [.int 0, .ref kd, .ref mo, .ref st, .int 0, .ref ro, .ref tp, .int 40, .ref cd, .ref sr, .int 0, .int 0, .int 0, .ref ir, .ref ih, .ref ss, .ref sq, .ref ce, .ref lw, .int 28, .int 27, .int 1, .int 1, .ref wo, .ref he, .int 0, .int 0, .int 4, .ref sk, .ref na, .ref kp, .int 0, .int 0, .int 0, .int 0, .ref gb, .ref go, .ref fa, .ref ga, .int 0, .int 0, .ref vo]))] := hD.sub [0, 3, 4] (by decide) rfl
  have hFc := va_free (wc := [(he, .inl (G.2.1, 200, .inl (upd (fun _ => 0) 0 17))), (cd, .inl (G.2.1, 1200, .inl (upd (upd (upd (upd (fun _ => 0) 0 0) 1 1) 2 17) 3 100001))), (h0, .inr (6, [.int 0, .ref kd, .ref mo, .ref st, .int 0, .ref ro, .ref tp, .int 40, .ref cd, .ref sr, .int 0, .int 0, .int 0, .ref ir, .ref ih, .ref ss, .ref sq, .ref ce, .ref lw, .int 28, .int 27, .int 1, .int 1, .ref wo, .ref he, .int 0, .int 0, .int 4, .ref sk, .ref na, .ref kp, .int 0, .int 0, .int 0, .int 0, .ref gb, .ref go, .ref fa, .ref ga, .int 0, .int 0, .ref vo]))]) hD hS hA [0, 3, 4] rfl
  refine va_callv (va_runV (As := [.int 7]) (rest := []) ⟨hx, hb, hml, hown, hts⟩ (c_X6_unwinds_z47 l G h0 he cd kd mo st ro tp sr ir ih ss sq ce lw wo sk na kp gb go fa ga vo H.size) (cwV 1 hts gX6_eRead_X6_unwinds rfl rfl rfl (by decide +kernel) ⟨Nat.le_of_ble_eq_true rfl, Nat.le_of_ble_eq_true rfl⟩) ⟨gPre_blind, va_recv hK hPc (ci := 6) (q0 := 2) rfl rfl, fun U hU hW => gPre_of hU hW hK hPc hDc⟩ rfl rfl hl.1 rfl (lv_room (Nat.le_of_ble_eq_true rfl)) dX6_eRead_67 ⟨Nat.le_of_ble_eq_true rfl, Nat.le_of_ble_eq_true rfl⟩) hS (fun q _ h => hFc q h) hFc (fun u t H locs ht hvm w_10 hB hz1 hk1 hS => ?_)
  obtain ⟨hP1, hK1, hD1⟩ := hB
  rw [ht] at hP1
  have hP1 : va_P G.1 vwCl [(he, .inl (G.2.1, 200, .inl (upd (fun _ => 0) 0 17))), (cd, .inl (G.2.1, 1200, .inl (upd (upd (upd (upd (fun _ => 0) 0 0) 1 1) 2 17) 3 100001))), (h0, .inr (6, [.int 0, .ref kd, .ref mo, .ref st, .int 0, .ref ro, .ref tp, .int 40, .ref cd, .ref sr, .int 0, .int 0, .int 0, .ref ir, .ref ih, .ref ss, .ref sq, .ref ce, .ref lw, .int 28, .int 27, .int 1, .int 1, .ref wo, .ref he, .int 0, .int 0, .int 4, .ref sk, .ref na, .ref kp, .int 0, .int 0, .int 0, .int 0, .ref gb, .ref go, .ref fa, .ref ga, .int 0, .int 0, .ref vo]))] H := hP1
  have hD1 : va_D (va_A [(he, .inl (G.2.1, 200, .inl (upd (fun _ => 0) 0 17))), (cd, .inl (G.2.1, 1200, .inl (upd (upd (upd (upd (fun _ => 0) 0 0) 1 1) 2 17) 3 100001))), (h0, .inr (6, [.int 0, .ref kd, .ref mo, .ref st, .int 0, .ref ro, .ref tp, .int 40, .ref cd, .ref sr, .int 0, .int 0, .int 0, .ref ir, .ref ih, .ref ss, .ref sq, .ref ce, .ref lw, .int 28, .int 27, .int 1, .int 1, .ref wo, .ref he, .int 0, .int 0, .int 4, .ref sk, .ref na, .ref kp, .int 0, .int 0, .int 0, .int 0, .ref gb, .ref go, .ref fa, .ref ga, .int 0, .int 0, .ref vo]))] _) [(he, .inl (G.2.1, 200, .inl (upd (fun _ => 0) 0 17))), (cd, .inl (G.2.1, 1200, .inl (upd (upd (upd (upd (fun _ => 0) 0 0) 1 1) 2 17) 3 100001))), (h0, .inr (6, [.int 0, .ref kd, .ref mo, .ref st, .int 0, .ref ro, .ref tp, .int 40, .ref cd, .ref sr, .int 0, .int 0, .int 0, .ref ir, .ref ih, .ref ss, .ref sq, .ref ce, .ref lw, .int 28, .int 27, .int 1, .int 1, .ref wo, .ref he, .int 0, .int 0, .int 4, .ref sk, .ref na, .ref kp, .int 0, .int 0, .int 0, .int 0, .ref gb, .ref go, .ref fa, .ref ga, .int 0, .int 0, .ref vo]))] := hD1
  obtain ⟨hP, hD⟩ := va_join (wr := [(tp, .inl (G.2.1, 160, .inl (gPf tB 40))), (wo, .inl (G.2.1, 96, .inl (gPf tW 96)))]) (w1 := [(he, .inl (G.2.1, 200, .inl (upd (fun _ => 0) 0 17))), (cd, .inl (G.2.1, 1200, .inl (upd (upd (upd (upd (fun _ => 0) 0 0) 1 1) 2 17) 3 100001))), (h0, .inr (6, [.int 0, .ref kd, .ref mo, .ref st, .int 0, .ref ro, .ref tp, .int 40, .ref cd, .ref sr, .int 0, .int 0, .int 0, .ref ir, .ref ih, .ref ss, .ref sq, .ref ce, .ref lw, .int 28, .int 27, .int 1, .int 1, .ref wo, .ref he, .int 0, .int 0, .int 4, .ref sk, .ref na, .ref kp, .int 0, .int 0, .int 0, .int 0, .ref gb, .ref go, .ref fa, .ref ga, .int 0, .int 0, .ref vo]))]) hP hD [0, 3, 4] [1, 2] rfl rfl (by decide) (by decide) hk1 hFc hP1 hD1
  have hP : va_P G.1 vwCl [(tp, .inl (G.2.1, 160, .inl (gPf tB 40))), (wo, .inl (G.2.1, 96, .inl (gPf tW 96))), (he, .inl (G.2.1, 200, .inl (upd (fun _ => 0) 0 17))), (cd, .inl (G.2.1, 1200, .inl (upd (upd (upd (upd (fun _ => 0) 0 0) 1 1) 2 17) 3 100001))), (h0, .inr (6, [.int 0, .ref kd, .ref mo, .ref st, .int 0, .ref ro, .ref tp, .int 40, .ref cd, .ref sr, .int 0, .int 0, .int 0, .ref ir, .ref ih, .ref ss, .ref sq, .ref ce, .ref lw, .int 28, .int 27, .int 1, .int 1, .ref wo, .ref he, .int 0, .int 0, .int 4, .ref sk, .ref na, .ref kp, .int 0, .int 0, .int 0, .int 0, .ref gb, .ref go, .ref fa, .ref ga, .int 0, .int 0, .ref vo]))] H := hP
  have hD : va_D A [(tp, .inl (G.2.1, 160, .inl (gPf tB 40))), (wo, .inl (G.2.1, 96, .inl (gPf tW 96))), (he, .inl (G.2.1, 200, .inl (upd (fun _ => 0) 0 17))), (cd, .inl (G.2.1, 1200, .inl (upd (upd (upd (upd (fun _ => 0) 0 0) 1 1) 2 17) 3 100001))), (h0, .inr (6, [.int 0, .ref kd, .ref mo, .ref st, .int 0, .ref ro, .ref tp, .int 40, .ref cd, .ref sr, .int 0, .int 0, .int 0, .ref ir, .ref ih, .ref ss, .ref sq, .ref ce, .ref lw, .int 28, .int 27, .int 1, .int 1, .ref wo, .ref he, .int 0, .int 0, .int 4, .ref sk, .ref na, .ref kp, .int 0, .int 0, .int 0, .int 0, .ref gb, .ref go, .ref fa, .ref ga, .int 0, .int 0, .ref vo]))] := hD
  refine lv_iconst (v := 0) hx hb dX6_eRead_70 (by decide) ?_
  refine lv_istore_n (lv' := [(1, .int 0), (2, .int 1), (0, .ref h0)]) hx hb dX6_eRead_71 rfl hl (by decide) rfl (fun ls hl => ?_)
  refine lv_goto (tgt := 14) hx hb dX6_eRead_72 (by decide) ?_
  refine lv_aload_n hx hb dX6_eRead_14 rfl (lv_at hl 2 rfl) ?_
  have hPc : va_P G.1 vwCl [(tp, .inl (G.2.1, 160, .inl (gPf tB 40))), (wo, .inl (G.2.1, 96, .inl (gPf tW 96))), (h0, .inr (6, [.int 0, .ref kd, .ref mo, .ref st, .int 0, .ref ro, .ref tp, .int 40, .ref cd, .ref sr, .int 0, .int 0, .int 0, .ref ir, .ref ih, .ref ss, .ref sq, .ref ce, .ref lw, .int 28, .int 27, .int 1, .int 1, .ref wo, .ref he, .int 0, .int 0, .int 4, .ref sk, .ref na, .ref kp, .int 0, .int 0, .int 0, .int 0, .ref gb, .ref go, .ref fa, .ref ga, .int 0, .int 0, .ref vo]))] H := hP.sub [0, 1, 4] rfl
  have hDc : va_D A [(tp, .inl (G.2.1, 160, .inl (gPf tB 40))), (wo, .inl (G.2.1, 96, .inl (gPf tW 96))), (h0, .inr (6, [.int 0, .ref kd, .ref mo, .ref st, .int 0, .ref ro, .ref tp, .int 40, .ref cd, .ref sr, .int 0, .int 0, .int 0, .ref ir, .ref ih, .ref ss, .ref sq, .ref ce, .ref lw, .int 28, .int 27, .int 1, .int 1, .ref wo, .ref he, .int 0, .int 0, .int 4, .ref sk, .ref na, .ref kp, .int 0, .int 0, .int 0, .int 0, .ref gb, .ref go, .ref fa, .ref ga, .int 0, .int 0, .ref vo]))] := hD.sub [0, 1, 4] (by decide) rfl
  have hFc := va_free (wc := [(tp, .inl (G.2.1, 160, .inl (gPf tB 40))), (wo, .inl (G.2.1, 96, .inl (gPf tW 96))), (h0, .inr (6, [.int 0, .ref kd, .ref mo, .ref st, .int 0, .ref ro, .ref tp, .int 40, .ref cd, .ref sr, .int 0, .int 0, .int 0, .ref ir, .ref ih, .ref ss, .ref sq, .ref ce, .ref lw, .int 28, .int 27, .int 1, .int 1, .ref wo, .ref he, .int 0, .int 0, .int 4, .ref sk, .ref na, .ref kp, .int 0, .int 0, .int 0, .int 0, .ref gb, .ref go, .ref fa, .ref ga, .int 0, .int 0, .ref vo]))]) hD hS hA [0, 1, 4] rfl
  refine va_callv (va_runV (As := []) (rest := []) ⟨hx, hb, hml, hown, hts⟩ (c_X6_next_z48 l G h0 tp wo kd mo st ro cd sr ir ih ss sq ce lw he sk na kp gb go fa ga vo H.size) (cwV 0 hts gX6_eRead_X6_next rfl rfl rfl (by decide +kernel) ⟨Nat.le_of_ble_eq_true rfl, Nat.le_of_ble_eq_true rfl⟩) ⟨gPre_blind, va_recv hK hPc (ci := 6) (q0 := 2) rfl rfl, fun U hU hW => gPre_of hU hW hK hPc hDc⟩ rfl rfl hl.1 rfl (lv_room (Nat.le_of_ble_eq_true rfl)) dX6_eRead_15 ⟨Nat.le_of_ble_eq_true rfl, Nat.le_of_ble_eq_true rfl⟩) hS (fun q _ h => hFc q h) hFc (fun u t H locs ht hvm w_12 hB hz1 hk1 hS => ?_)
  obtain ⟨hP1, hK1, hD1⟩ := hB
  rw [ht] at hP1
  have hP1 : va_P G.1 vwCl [(tp, .inl (G.2.1, 160, .inl (gPf tB 40))), (wo, .inl (G.2.1, 96, .inl (gPf tW 96))), (h0, .inr (6, [.int 0, .ref kd, .ref mo, .ref st, .int 0, .ref ro, .ref tp, .int 40, .ref cd, .ref sr, .int 0, .int 0, .int 0, .ref ir, .ref ih, .ref ss, .ref sq, .ref ce, .ref lw, .int 30, .int 29, .int 59, .int 0, .ref wo, .ref he, .int 0, .int 0, .int 4, .ref sk, .ref na, .ref kp, .int 0, .int 0, .int 0, .int 0, .ref gb, .ref go, .ref fa, .ref ga, .int 0, .int 0, .ref vo]))] H := hP1
  have hD1 : va_D (va_A [(tp, .inl (G.2.1, 160, .inl (gPf tB 40))), (wo, .inl (G.2.1, 96, .inl (gPf tW 96))), (h0, .inr (6, [.int 0, .ref kd, .ref mo, .ref st, .int 0, .ref ro, .ref tp, .int 40, .ref cd, .ref sr, .int 0, .int 0, .int 0, .ref ir, .ref ih, .ref ss, .ref sq, .ref ce, .ref lw, .int 28, .int 27, .int 1, .int 1, .ref wo, .ref he, .int 0, .int 0, .int 4, .ref sk, .ref na, .ref kp, .int 0, .int 0, .int 0, .int 0, .ref gb, .ref go, .ref fa, .ref ga, .int 0, .int 0, .ref vo]))] _) [(tp, .inl (G.2.1, 160, .inl (gPf tB 40))), (wo, .inl (G.2.1, 96, .inl (gPf tW 96))), (h0, .inr (6, [.int 0, .ref kd, .ref mo, .ref st, .int 0, .ref ro, .ref tp, .int 40, .ref cd, .ref sr, .int 0, .int 0, .int 0, .ref ir, .ref ih, .ref ss, .ref sq, .ref ce, .ref lw, .int 30, .int 29, .int 59, .int 0, .ref wo, .ref he, .int 0, .int 0, .int 4, .ref sk, .ref na, .ref kp, .int 0, .int 0, .int 0, .int 0, .ref gb, .ref go, .ref fa, .ref ga, .int 0, .int 0, .ref vo]))] := hD1
  obtain ⟨hP, hD⟩ := va_join (wr := [(he, .inl (G.2.1, 200, .inl (upd (fun _ => 0) 0 17))), (cd, .inl (G.2.1, 1200, .inl (upd (upd (upd (upd (fun _ => 0) 0 0) 1 1) 2 17) 3 100001)))]) (w1 := [(tp, .inl (G.2.1, 160, .inl (gPf tB 40))), (wo, .inl (G.2.1, 96, .inl (gPf tW 96))), (h0, .inr (6, [.int 0, .ref kd, .ref mo, .ref st, .int 0, .ref ro, .ref tp, .int 40, .ref cd, .ref sr, .int 0, .int 0, .int 0, .ref ir, .ref ih, .ref ss, .ref sq, .ref ce, .ref lw, .int 30, .int 29, .int 59, .int 0, .ref wo, .ref he, .int 0, .int 0, .int 4, .ref sk, .ref na, .ref kp, .int 0, .int 0, .int 0, .int 0, .ref gb, .ref go, .ref fa, .ref ga, .int 0, .int 0, .ref vo]))]) hP hD [0, 1, 4] [2, 3] rfl rfl (by decide) (by decide) hk1 hFc hP1 hD1
  have hP : va_P G.1 vwCl [(he, .inl (G.2.1, 200, .inl (upd (fun _ => 0) 0 17))), (cd, .inl (G.2.1, 1200, .inl (upd (upd (upd (upd (fun _ => 0) 0 0) 1 1) 2 17) 3 100001))), (tp, .inl (G.2.1, 160, .inl (gPf tB 40))), (wo, .inl (G.2.1, 96, .inl (gPf tW 96))), (h0, .inr (6, [.int 0, .ref kd, .ref mo, .ref st, .int 0, .ref ro, .ref tp, .int 40, .ref cd, .ref sr, .int 0, .int 0, .int 0, .ref ir, .ref ih, .ref ss, .ref sq, .ref ce, .ref lw, .int 30, .int 29, .int 59, .int 0, .ref wo, .ref he, .int 0, .int 0, .int 4, .ref sk, .ref na, .ref kp, .int 0, .int 0, .int 0, .int 0, .ref gb, .ref go, .ref fa, .ref ga, .int 0, .int 0, .ref vo]))] H := hP
  have hD : va_D A [(he, .inl (G.2.1, 200, .inl (upd (fun _ => 0) 0 17))), (cd, .inl (G.2.1, 1200, .inl (upd (upd (upd (upd (fun _ => 0) 0 0) 1 1) 2 17) 3 100001))), (tp, .inl (G.2.1, 160, .inl (gPf tB 40))), (wo, .inl (G.2.1, 96, .inl (gPf tW 96))), (h0, .inr (6, [.int 0, .ref kd, .ref mo, .ref st, .int 0, .ref ro, .ref tp, .int 40, .ref cd, .ref sr, .int 0, .int 0, .int 0, .ref ir, .ref ih, .ref ss, .ref sq, .ref ce, .ref lw, .int 30, .int 29, .int 59, .int 0, .ref wo, .ref he, .int 0, .int 0, .int 4, .ref sk, .ref na, .ref kp, .int 0, .int 0, .int 0, .int 0, .ref gb, .ref go, .ref fa, .ref ga, .int 0, .int 0, .ref vo]))] := hD
  refine lv_iload_n hx hb dX6_eRead_18 rfl (lv_at hl 0 rfl) ?_
  refine lv_if_eq (tgt := 150) hx hb dX6_eRead_19 (by decide) (fun c_13 => ?_) (fun c_13 => ?_)
  rotate_left
  · exact absurd (by decide) c_13
  refine lv_aload_n hx hb dX6_eRead_150 rfl (lv_at hl 2 rfl) ?_
  refine va_get (D := G.1) (ci := 6) (v := .int 59) (C := RX6) (T := TX6) (N := 42) hx hb hts hiX6 hown hK hP 4 rfl rfl 21 (by decide) kf117 (fun _ h9 => h9) rfl dX6_eRead_151 ?_
  refine lv_bipush (v := 59) hx hb dX6_eRead_154 (by decide) ?_
  refine lv_icmp_ne (tgt := 177) hx hb dX6_eRead_156 (by decide) (fun c_14 => ?_) (fun c_14 => ?_)
  · exact absurd (by decide) c_14
  refine lv_aload_n hx hb dX6_eRead_159 rfl (lv_at hl 2 rfl) ?_
  refine lv_iconst (v := 1) hx hb dX6_eRead_160 (by decide) ?_
  have hPc : va_P G.1 vwCl [(he, .inl (G.2.1, 200, .inl (upd (fun _ => 0) 0 17))), (cd, .inl (G.2.1, 1200, .inl (upd (upd (upd (upd (fun _ => 0) 0 0) 1 1) 2 17) 3 100001))), (h0, .inr (6, [.int 0, .ref kd, .ref mo, .ref st, .int 0, .ref ro, .ref tp, .int 40, .ref cd, .ref sr, .int 0, .int 0, .int 0, .ref ir, .ref ih, .ref ss, .ref sq, .ref ce, .ref lw, .int 30, .int 29, .int 59, .int 0, .ref wo, .ref he, .int 0, .int 0, .int 4, .ref sk, .ref na, .ref kp, .int 0, .int 0, .int 0, .int 0, .ref gb, .ref go, .ref fa, .ref ga, .int 0, .int 0, .ref vo]))] H := hP.sub [0, 1, 4] rfl
  have hDc : va_D A [(he, .inl (G.2.1, 200, .inl (upd (fun _ => 0) 0 17))), (cd, .inl (G.2.1, 1200, .inl (upd (upd (upd (upd (fun _ => 0) 0 0) 1 1) 2 17) 3 100001))), (h0, .inr (6, [.int 0, .ref kd, .ref mo, .ref st, .int 0, .ref ro, .ref tp, .int 40, .ref cd, .ref sr, .int 0, .int 0, .int 0, .ref ir, .ref ih, .ref ss, .ref sq, .ref ce, .ref lw, .int 30, .int 29, .int 59, .int 0, .ref wo, .ref he, .int 0, .int 0, .int 4, .ref sk, .ref na, .ref kp, .int 0, .int 0, .int 0, .int 0, .ref gb, .ref go, .ref fa, .ref ga, .int 0, .int 0, .ref vo]))] := hD.sub [0, 1, 4] (by decide) rfl
  have hFc := va_free (wc := [(he, .inl (G.2.1, 200, .inl (upd (fun _ => 0) 0 17))), (cd, .inl (G.2.1, 1200, .inl (upd (upd (upd (upd (fun _ => 0) 0 0) 1 1) 2 17) 3 100001))), (h0, .inr (6, [.int 0, .ref kd, .ref mo, .ref st, .int 0, .ref ro, .ref tp, .int 40, .ref cd, .ref sr, .int 0, .int 0, .int 0, .ref ir, .ref ih, .ref ss, .ref sq, .ref ce, .ref lw, .int 30, .int 29, .int 59, .int 0, .ref wo, .ref he, .int 0, .int 0, .int 4, .ref sk, .ref na, .ref kp, .int 0, .int 0, .int 0, .int 0, .ref gb, .ref go, .ref fa, .ref ga, .int 0, .int 0, .ref vo]))]) hD hS hA [0, 1, 4] rfl
  refine va_callv (va_runV (As := [.int 1]) (rest := []) ⟨hx, hb, hml, hown, hts⟩ (c_X6_unwinds_z49 l G h0 he cd kd mo st ro tp sr ir ih ss sq ce lw wo sk na kp gb go fa ga vo H.size) (cwV 1 hts gX6_eRead_X6_unwinds rfl rfl rfl (by decide +kernel) ⟨Nat.le_of_ble_eq_true rfl, Nat.le_of_ble_eq_true rfl⟩) ⟨gPre_blind, va_recv hK hPc (ci := 6) (q0 := 2) rfl rfl, fun U hU hW => gPre_of hU hW hK hPc hDc⟩ rfl rfl hl.1 rfl (lv_room (Nat.le_of_ble_eq_true rfl)) dX6_eRead_161 ⟨Nat.le_of_ble_eq_true rfl, Nat.le_of_ble_eq_true rfl⟩) hS (fun q _ h => hFc q h) hFc (fun u t H locs ht hvm w_16 hB hz1 hk1 hS => ?_)
  obtain ⟨hP1, hK1, hD1⟩ := hB
  rw [ht] at hP1
  have hP1 : va_P G.1 vwCl [(he, .inl (G.2.1, 200, .inl (upd (fun _ => 0) 0 17))), (cd, .inl (G.2.1, 1200, .inl (upd (upd (upd (upd (fun _ => 0) 0 0) 1 1) 2 17) 3 100001))), (h0, .inr (6, [.int 0, .ref kd, .ref mo, .ref st, .int 0, .ref ro, .ref tp, .int 40, .ref cd, .ref sr, .int 0, .int 0, .int 0, .ref ir, .ref ih, .ref ss, .ref sq, .ref ce, .ref lw, .int 30, .int 29, .int 59, .int 0, .ref wo, .ref he, .int 0, .int 0, .int 4, .ref sk, .ref na, .ref kp, .int 0, .int 0, .int 0, .int 0, .ref gb, .ref go, .ref fa, .ref ga, .int 0, .int 0, .ref vo]))] H := hP1
  have hD1 : va_D (va_A [(he, .inl (G.2.1, 200, .inl (upd (fun _ => 0) 0 17))), (cd, .inl (G.2.1, 1200, .inl (upd (upd (upd (upd (fun _ => 0) 0 0) 1 1) 2 17) 3 100001))), (h0, .inr (6, [.int 0, .ref kd, .ref mo, .ref st, .int 0, .ref ro, .ref tp, .int 40, .ref cd, .ref sr, .int 0, .int 0, .int 0, .ref ir, .ref ih, .ref ss, .ref sq, .ref ce, .ref lw, .int 30, .int 29, .int 59, .int 0, .ref wo, .ref he, .int 0, .int 0, .int 4, .ref sk, .ref na, .ref kp, .int 0, .int 0, .int 0, .int 0, .ref gb, .ref go, .ref fa, .ref ga, .int 0, .int 0, .ref vo]))] _) [(he, .inl (G.2.1, 200, .inl (upd (fun _ => 0) 0 17))), (cd, .inl (G.2.1, 1200, .inl (upd (upd (upd (upd (fun _ => 0) 0 0) 1 1) 2 17) 3 100001))), (h0, .inr (6, [.int 0, .ref kd, .ref mo, .ref st, .int 0, .ref ro, .ref tp, .int 40, .ref cd, .ref sr, .int 0, .int 0, .int 0, .ref ir, .ref ih, .ref ss, .ref sq, .ref ce, .ref lw, .int 30, .int 29, .int 59, .int 0, .ref wo, .ref he, .int 0, .int 0, .int 4, .ref sk, .ref na, .ref kp, .int 0, .int 0, .int 0, .int 0, .ref gb, .ref go, .ref fa, .ref ga, .int 0, .int 0, .ref vo]))] := hD1
  obtain ⟨hP, hD⟩ := va_join (wr := [(tp, .inl (G.2.1, 160, .inl (gPf tB 40))), (wo, .inl (G.2.1, 96, .inl (gPf tW 96)))]) (w1 := [(he, .inl (G.2.1, 200, .inl (upd (fun _ => 0) 0 17))), (cd, .inl (G.2.1, 1200, .inl (upd (upd (upd (upd (fun _ => 0) 0 0) 1 1) 2 17) 3 100001))), (h0, .inr (6, [.int 0, .ref kd, .ref mo, .ref st, .int 0, .ref ro, .ref tp, .int 40, .ref cd, .ref sr, .int 0, .int 0, .int 0, .ref ir, .ref ih, .ref ss, .ref sq, .ref ce, .ref lw, .int 30, .int 29, .int 59, .int 0, .ref wo, .ref he, .int 0, .int 0, .int 4, .ref sk, .ref na, .ref kp, .int 0, .int 0, .int 0, .int 0, .ref gb, .ref go, .ref fa, .ref ga, .int 0, .int 0, .ref vo]))]) hP hD [0, 1, 4] [2, 3] rfl rfl (by decide) (by decide) hk1 hFc hP1 hD1
  have hP : va_P G.1 vwCl [(tp, .inl (G.2.1, 160, .inl (gPf tB 40))), (wo, .inl (G.2.1, 96, .inl (gPf tW 96))), (he, .inl (G.2.1, 200, .inl (upd (fun _ => 0) 0 17))), (cd, .inl (G.2.1, 1200, .inl (upd (upd (upd (upd (fun _ => 0) 0 0) 1 1) 2 17) 3 100001))), (h0, .inr (6, [.int 0, .ref kd, .ref mo, .ref st, .int 0, .ref ro, .ref tp, .int 40, .ref cd, .ref sr, .int 0, .int 0, .int 0, .ref ir, .ref ih, .ref ss, .ref sq, .ref ce, .ref lw, .int 30, .int 29, .int 59, .int 0, .ref wo, .ref he, .int 0, .int 0, .int 4, .ref sk, .ref na, .ref kp, .int 0, .int 0, .int 0, .int 0, .ref gb, .ref go, .ref fa, .ref ga, .int 0, .int 0, .ref vo]))] H := hP
  have hD : va_D A [(tp, .inl (G.2.1, 160, .inl (gPf tB 40))), (wo, .inl (G.2.1, 96, .inl (gPf tW 96))), (he, .inl (G.2.1, 200, .inl (upd (fun _ => 0) 0 17))), (cd, .inl (G.2.1, 1200, .inl (upd (upd (upd (upd (fun _ => 0) 0 0) 1 1) 2 17) 3 100001))), (h0, .inr (6, [.int 0, .ref kd, .ref mo, .ref st, .int 0, .ref ro, .ref tp, .int 40, .ref cd, .ref sr, .int 0, .int 0, .int 0, .ref ir, .ref ih, .ref ss, .ref sq, .ref ce, .ref lw, .int 30, .int 29, .int 59, .int 0, .ref wo, .ref he, .int 0, .int 0, .int 4, .ref sk, .ref na, .ref kp, .int 0, .int 0, .int 0, .int 0, .ref gb, .ref go, .ref fa, .ref ga, .int 0, .int 0, .ref vo]))] := hD
  refine lv_aload_n hx hb dX6_eRead_164 rfl (lv_at hl 2 rfl) ?_
  refine va_get (D := G.1) (ci := 6) (v := .int 0) (C := RX6) (T := TX6) (N := 42) hx hb hts hiX6 hown hK hP 4 rfl rfl 25 (by decide) kf130 (fun _ h9 => h9) rfl dX6_eRead_165 ?_
  refine lv_if_ne (tgt := 175) hx hb dX6_eRead_168 (by decide) (fun c_17 => ?_) (fun c_17 => ?_)
  · exact absurd (by decide) c_17
  refine lv_iconst (v := 1) hx hb dX6_eRead_171 (by decide) ?_
  refine lv_goto (tgt := 176) hx hb dX6_eRead_172 (by decide) ?_
  have hP9 := hP.sub (ws' := [(cd, .inl (G.2.1, 1200, .inl (upd (upd (upd (upd (fun _ => 0) 0 0) 1 1) 2 17) 3 100001))), (he, .inl (G.2.1, 200, .inl (upd (fun _ => 0) 0 17))), (h0, .inr (6, [.int 0, .ref kd, .ref mo, .ref st, .int 0, .ref ro, .ref tp, .int 40, .ref cd, .ref sr, .int 0, .int 0, .int 0, .ref ir, .ref ih, .ref ss, .ref sq, .ref ce, .ref lw, .int 30, .int 29, .int 59, .int 0, .ref wo, .ref he, .int 0, .int 0, .int 4, .ref sk, .ref na, .ref kp, .int 0, .int 0, .int 0, .int 0, .ref gb, .ref go, .ref fa, .ref ga, .int 0, .int 0, .ref vo])), (tp, .inl (G.2.1, 160, .inl (gPf tB 40))), (wo, .inl (G.2.1, 96, .inl (gPf tW 96)))]) [3, 2, 4, 0, 1] rfl
  have hD9 := hD.sub (ws' := [(cd, .inl (G.2.1, 1200, .inl (upd (upd (upd (upd (fun _ => 0) 0 0) 1 1) 2 17) 3 100001))), (he, .inl (G.2.1, 200, .inl (upd (fun _ => 0) 0 17))), (h0, .inr (6, [.int 0, .ref kd, .ref mo, .ref st, .int 0, .ref ro, .ref tp, .int 40, .ref cd, .ref sr, .int 0, .int 0, .int 0, .ref ir, .ref ih, .ref ss, .ref sq, .ref ce, .ref lw, .int 30, .int 29, .int 59, .int 0, .ref wo, .ref he, .int 0, .int 0, .int 4, .ref sk, .ref na, .ref kp, .int 0, .int 0, .int 0, .int 0, .ref gb, .ref go, .ref fa, .ref ga, .int 0, .int 0, .ref vo])), (tp, .inl (G.2.1, 160, .inl (gPf tB 40))), (wo, .inl (G.2.1, 96, .inl (gPf tW 96)))]) [3, 2, 4, 0, 1] (by decide) rfl
  have hpost : (fun (r : Int32) (u : Unit) => match u with | _ => r = 1) 1 () := by first | rfl | trivial
  exact W.zret (v := 1) hx hb hr (rfl) (fun t ht hW => ⟨⟨1, (), rfl, hpost, by rw [ht]; exact hP9, va_K.moved hW.alike hK, hD9⟩, hS.F ht⟩) hS.2.2 dX6_eRead_176
abbrev q_X6_in_z51 (G : gG) (A : Nat → Prop) : Array Value → State → Outcome → State → Prop := va_Qi (fun (r : Int32) (u : Unit) => match u with | _ => r = 1) (fun (u : Unit) t => match u with | _ => va_P G.1 vwCl [] t.heap ∧ gK G t ∧ va_D A []) A
set_option maxHeartbeats 4000000 in
set_option maxRecDepth 100000 in
theorem c_X6_in_z51 (l : Launch) (G : gG) (sz : Nat) : Met l yX6_in wsX6_in ({ frames := 0, cells := 0, slots := 0, locals := 0 }) (gPre G [.int 98, .int 97, .int 122] [] sz) (q_X6_in_z51 G (va_A [] sz)) 0 0 (va_A [] sz) := by
  refine Met.ofW (cc := cX6_in) (maxL := 3) (ret := (some .boolean)) (by decide) rfl ?_
  intro p e s m args below meth c s₁ B hml hv
  obtain ⟨rfl, hsz, hP, hK, hD0⟩ := hv
  have hx := B.exec
  have hb := B.bytes
  have hr := B.returns
  have hts := atoms_spec (ws := wsX6_in) B.pre
  have hown : s.vm.findClass RX6 = some m.cls := findClass_of_methodNamed B.named
  have hlocks := B.notSynchronized
  subst hsz
  have hD := hD0.self (sz := s.heap.size)
  generalize hAe : va_A [] s.heap.size = A at hD ⊢
  have hA : ∀ q : Nat, s.heap.size ≤ q → A q := fun q h => by rw [← hAe]; exact Or.inr h
  have hS : va_S A s.heap s.heap [] := va_S.rf
  have hP : va_P G.1 vwCl [] s.heap := hP
  have hD : va_D A [] := hD
  have hl := lv_entry ([.int 98, .int 97, .int 122]) (n := 3) (Nat.le_of_ble_eq_true rfl)
  rw [lg_entry_eq]
  generalize (lg_sl ([.int 98, .int 97, .int 122]) ++ List.replicate (3 - (lg_sl ([.int 98, .int 97, .int 122])).length) Slot.unset).toArray = ls at hl ⊢
  have hl : lv_has ls 3 [(0, .int 98), (1, .int 97), (2, .int 122)] := hl
  refine lv_iload_n hx hb dX6_in_0 rfl (lv_at hl 0 rfl) ?_
  refine lv_iload_n hx hb dX6_in_1 rfl (lv_at hl 1 rfl) ?_
  refine lv_icmp_lt (tgt := 14) hx hb dX6_in_2 (by decide) (fun c_1 => ?_) (fun c_1 => ?_)
  · exact absurd c_1 (by decide)
  refine lv_iload_n hx hb dX6_in_5 rfl (lv_at hl 0 rfl) ?_
  refine lv_iload_n hx hb dX6_in_6 rfl (lv_at hl 2 rfl) ?_
  refine lv_icmp_gt (tgt := 14) hx hb dX6_in_7 (by decide) (fun c_2 => ?_) (fun c_2 => ?_)
  · exact absurd c_2 (by decide)
  refine lv_iconst (v := 1) hx hb dX6_in_10 (by decide) ?_
  refine lv_goto (tgt := 15) hx hb dX6_in_11 (by decide) ?_
  have hP9 := hP.sub (ws' := []) [] rfl
  have hD9 := hD.sub (ws' := []) [] (by decide) rfl
  have hpost : (fun (r : Int32) (u : Unit) => match u with | _ => r = 1) 1 () := by first | rfl | trivial
  exact W.zret (v := 1) hx hb hr (rfl) (fun t ht hW => ⟨⟨1, (), rfl, hpost, by rw [ht]; exact hP9, va_K.moved hW.alike hK, hD9⟩, hS.F ht⟩) hS.2.2 dX6_in_15
abbrev q_X6_wordFrom_z52 (G : gG) (h0 kd mo st ro tp cd sr ir ih ss sq ce lw wo he sk na kp gb go fa ga vo : Nat) (A : Nat → Prop) : Array Value → State → Outcome → State → Prop := va_Qi (fun (r : Int32) (u : Unit) => match u with | _ => r = 2) (fun (u : Unit) t => match u with | _ => va_P G.1 vwCl [(h0, .inr (6, [.int 0, .ref kd, .ref mo, .ref st, .int 0, .ref ro, .ref tp, .int 40, .ref cd, .ref sr, .int 0, .int 0, .int 0, .ref ir, .ref ih, .ref ss, .ref sq, .ref ce, .ref lw, .int 35, .int 31, .int 0, .int 0, .ref wo, .ref he, .int 0, .int 0, .int 4, .ref sk, .ref na, .ref kp, .int 0, .int 0, .int 0, .int 0, .ref gb, .ref go, .ref fa, .ref ga, .int 0, .int 0, .ref vo])), (tp, .inl (G.2.1, 160, .inl (gPf tB 40))), (wo, .inl (G.2.1, 96, .inl (gPf tW 96)))] t.heap ∧ gK G t ∧ va_D A [(h0, .inr (6, [.int 0, .ref kd, .ref mo, .ref st, .int 0, .ref ro, .ref tp, .int 40, .ref cd, .ref sr, .int 0, .int 0, .int 0, .ref ir, .ref ih, .ref ss, .ref sq, .ref ce, .ref lw, .int 35, .int 31, .int 0, .int 0, .ref wo, .ref he, .int 0, .int 0, .int 4, .ref sk, .ref na, .ref kp, .int 0, .int 0, .int 0, .int 0, .ref gb, .ref go, .ref fa, .ref ga, .int 0, .int 0, .ref vo])), (tp, .inl (G.2.1, 160, .inl (gPf tB 40))), (wo, .inl (G.2.1, 96, .inl (gPf tW 96)))]) A
set_option maxHeartbeats 4000000 in
set_option maxRecDepth 100000 in
theorem c_X6_wordFrom_z52 (l : Launch) (G : gG) (h0 kd mo st ro tp cd sr ir ih ss sq ce lw wo he sk na kp gb go fa ga vo : Nat) (sz : Nat) : Met l yX6_wordFrom wsX6_wordFrom ({ frames := 0, cells := 0, slots := 0, locals := 0 }) (gPre G [.ref h0, .int 31, .int 35] [(h0, .inr (6, [.int 0, .ref kd, .ref mo, .ref st, .int 0, .ref ro, .ref tp, .int 40, .ref cd, .ref sr, .int 0, .int 0, .int 0, .ref ir, .ref ih, .ref ss, .ref sq, .ref ce, .ref lw, .int 35, .int 31, .int 0, .int 0, .ref wo, .ref he, .int 0, .int 0, .int 4, .ref sk, .ref na, .ref kp, .int 0, .int 0, .int 0, .int 0, .ref gb, .ref go, .ref fa, .ref ga, .int 0, .int 0, .ref vo])), (tp, .inl (G.2.1, 160, .inl (gPf tB 40))), (wo, .inl (G.2.1, 96, .inl (gPf tW 96)))] sz) (q_X6_wordFrom_z52 G h0 kd mo st ro tp cd sr ir ih ss sq ce lw wo he sk na kp gb go fa ga vo (va_A [(h0, .inr (6, [.int 0, .ref kd, .ref mo, .ref st, .int 0, .ref ro, .ref tp, .int 40, .ref cd, .ref sr, .int 0, .int 0, .int 0, .ref ir, .ref ih, .ref ss, .ref sq, .ref ce, .ref lw, .int 35, .int 31, .int 0, .int 0, .ref wo, .ref he, .int 0, .int 0, .int 4, .ref sk, .ref na, .ref kp, .int 0, .int 0, .int 0, .int 0, .ref gb, .ref go, .ref fa, .ref ga, .int 0, .int 0, .ref vo])), (tp, .inl (G.2.1, 160, .inl (gPf tB 40))), (wo, .inl (G.2.1, 96, .inl (gPf tW 96)))] sz)) 0 0 (va_A [(h0, .inr (6, [.int 0, .ref kd, .ref mo, .ref st, .int 0, .ref ro, .ref tp, .int 40, .ref cd, .ref sr, .int 0, .int 0, .int 0, .ref ir, .ref ih, .ref ss, .ref sq, .ref ce, .ref lw, .int 35, .int 31, .int 0, .int 0, .ref wo, .ref he, .int 0, .int 0, .int 4, .ref sk, .ref na, .ref kp, .int 0, .int 0, .int 0, .int 0, .ref gb, .ref go, .ref fa, .ref ga, .int 0, .int 0, .ref vo])), (tp, .inl (G.2.1, 160, .inl (gPf tB 40))), (wo, .inl (G.2.1, 96, .inl (gPf tW 96)))] sz) := by
  refine Met.ofW (cc := cX6_wordFrom) (maxL := 6) (ret := (some .int)) (by decide) rfl ?_
  intro p e s m args below meth c s₁ B hml hv
  obtain ⟨rfl, hsz, hP, hK, hD0⟩ := hv
  have hx := B.exec
  have hb := B.bytes
  have hr := B.returns
  have hts := atoms_spec (ws := wsX6_wordFrom) B.pre
  have hown : s.vm.findClass RX6 = some m.cls := findClass_of_methodNamed B.named
  have hlocks := B.notSynchronized
  subst hsz
  have hD := hD0.self (sz := s.heap.size)
  generalize hAe : va_A [(h0, .inr (6, [.int 0, .ref kd, .ref mo, .ref st, .int 0, .ref ro, .ref tp, .int 40, .ref cd, .ref sr, .int 0, .int 0, .int 0, .ref ir, .ref ih, .ref ss, .ref sq, .ref ce, .ref lw, .int 35, .int 31, .int 0, .int 0, .ref wo, .ref he, .int 0, .int 0, .int 4, .ref sk, .ref na, .ref kp, .int 0, .int 0, .int 0, .int 0, .ref gb, .ref go, .ref fa, .ref ga, .int 0, .int 0, .ref vo])), (tp, .inl (G.2.1, 160, .inl (gPf tB 40))), (wo, .inl (G.2.1, 96, .inl (gPf tW 96)))] s.heap.size = A at hD ⊢
  have hA : ∀ q : Nat, s.heap.size ≤ q → A q := fun q h => by rw [← hAe]; exact Or.inr h
  have hS : va_S A s.heap s.heap [] := va_S.rf
  have hP : va_P G.1 vwCl [(h0, .inr (6, [.int 0, .ref kd, .ref mo, .ref st, .int 0, .ref ro, .ref tp, .int 40, .ref cd, .ref sr, .int 0, .int 0, .int 0, .ref ir, .ref ih, .ref ss, .ref sq, .ref ce, .ref lw, .int 35, .int 31, .int 0, .int 0, .ref wo, .ref he, .int 0, .int 0, .int 4, .ref sk, .ref na, .ref kp, .int 0, .int 0, .int 0, .int 0, .ref gb, .ref go, .ref fa, .ref ga, .int 0, .int 0, .ref vo])), (tp, .inl (G.2.1, 160, .inl (gPf tB 40))), (wo, .inl (G.2.1, 96, .inl (gPf tW 96)))] s.heap := hP
  have hD : va_D A [(h0, .inr (6, [.int 0, .ref kd, .ref mo, .ref st, .int 0, .ref ro, .ref tp, .int 40, .ref cd, .ref sr, .int 0, .int 0, .int 0, .ref ir, .ref ih, .ref ss, .ref sq, .ref ce, .ref lw, .int 35, .int 31, .int 0, .int 0, .ref wo, .ref he, .int 0, .int 0, .int 4, .ref sk, .ref na, .ref kp, .int 0, .int 0, .int 0, .int 0, .ref gb, .ref go, .ref fa, .ref ga, .int 0, .int 0, .ref vo])), (tp, .inl (G.2.1, 160, .inl (gPf tB 40))), (wo, .inl (G.2.1, 96, .inl (gPf tW 96)))] := hD
  have hl := lv_entry ([.ref h0, .int 31, .int 35]) (n := 6) (Nat.le_of_ble_eq_true rfl)
  rw [lg_entry_eq]
  generalize (lg_sl ([.ref h0, .int 31, .int 35]) ++ List.replicate (6 - (lg_sl ([.ref h0, .int 31, .int 35])).length) Slot.unset).toArray = ls at hl ⊢
  have hl : lv_has ls 6 [(0, .ref h0), (1, .int 31), (2, .int 35)] := hl
  have kf49 := hts (.fieldLink RX6 49 "PebbleInShoeModel" "words" "[I") (by decide +kernel)
  have hiX6 := (by decide +kernel : ∀ w ∈ wsX60, w ∈ wsX6_wordFrom)
  have kf22 := hts (.fieldLink RX6 22 "PebbleInShoeModel" "tape" "[I") (by decide +kernel)
  refine lv_iconst (v := 0) hx hb dX6_wordFrom_0 (by decide) ?_
  refine lv_istore_n (lv' := [(3, .int 0), (0, .ref h0), (1, .int 31), (2, .int 35)]) hx hb dX6_wordFrom_1 rfl hl (by decide) rfl (fun ls hl => ?_)
  refine lv_iload_n hx hb dX6_wordFrom_2 rfl (lv_at hl 0 rfl) ?_
  refine lv_bipush (v := 12) hx hb dX6_wordFrom_3 (by decide) ?_
  refine lv_icmp_ge (tgt := 101) hx hb dX6_wordFrom_5 (by decide) (fun c_1 => ?_) (fun c_1 => ?_)
  · exact absurd c_1 (by decide)
  refine lv_iload_n hx hb dX6_wordFrom_8 rfl (lv_at hl 3 rfl) ?_
  refine lv_iload_n hx hb dX6_wordFrom_9 rfl (lv_at hl 2 rfl) ?_
  refine lv_isub hx hb dX6_wordFrom_10 ?_
  refine lv_topi (fun v_2 ev_2 => ?_)
  have ev_2 : v_2 = 4 := ev_2.trans (by decide)
  subst ev_2
  refine lv_bipush (v := 8) hx hb dX6_wordFrom_11 (by decide) ?_
  refine lv_icmp_gt (tgt := 20) hx hb dX6_wordFrom_13 (by decide) (fun c_3 => ?_) (fun c_3 => ?_)
  · exact absurd c_3 (by decide)
  refine lv_iconst (v := 1) hx hb dX6_wordFrom_16 (by decide) ?_
  refine lv_goto (tgt := 21) hx hb dX6_wordFrom_17 (by decide) ?_
  refine lv_istore (lv' := [(4, .int 1), (3, .int 0), (0, .ref h0), (1, .int 31), (2, .int 35)]) hx hb dX6_wordFrom_21 hl (by decide) rfl (fun ls hl => ?_)
  refine lv_iconst (v := 0) hx hb dX6_wordFrom_23 (by decide) ?_
  refine lv_istore (lv' := [(5, .int 0), (4, .int 1), (3, .int 0), (0, .ref h0), (1, .int 31), (2, .int 35)]) hx hb dX6_wordFrom_24 hl (by decide) rfl (fun ls hl => ?_)
  refine lv_iload hx hb dX6_wordFrom_26 (lv_at hl 0 rfl) ?_
  refine lv_bipush (v := 8) hx hb dX6_wordFrom_28 (by decide) ?_
  refine lv_icmp_ge (tgt := 88) hx hb dX6_wordFrom_30 (by decide) (fun c_4 => ?_) (fun c_4 => ?_)
  · exact absurd c_4 (by decide)
  refine lv_iload hx hb dX6_wordFrom_33 (lv_at hl 1 rfl) ?_
  refine lv_if_eq (tgt := 88) hx hb dX6_wordFrom_35 (by decide) (fun c_5 => ?_) (fun c_5 => ?_)
  · exact absurd c_5 (by decide)
  refine lv_aload_n hx hb dX6_wordFrom_38 rfl (lv_at hl 3 rfl) ?_
  refine va_get (D := G.1) (ci := 6) (v := .ref wo) (C := RX6) (T := TX6) (N := 42) hx hb hts hiX6 hown hK hP 0 rfl rfl 23 (by decide) kf49 (fun _ h9 => h9) rfl dX6_wordFrom_39 ?_
  refine lv_bipush (v := 8) hx hb dX6_wordFrom_42 (by decide) ?_
  refine lv_iload_n hx hb dX6_wordFrom_44 rfl (lv_at hl 2 rfl) ?_
  refine lv_imul hx hb dX6_wordFrom_45 ?_
  refine lv_topi (fun v_6 ev_6 => ?_)
  have ev_6 : v_6 = 0 := ev_6.trans (by decide)
  subst ev_6
  refine lv_iload hx hb dX6_wordFrom_46 (lv_at hl 0 rfl) ?_
  refine lv_iadd hx hb dX6_wordFrom_48 ?_
  refine lv_topi (fun v_7 ev_7 => ?_)
  have ev_7 : v_7 = 0 := ev_7.trans (by decide)
  subst ev_7
  refine va_iald (D := G.1) hx hb hK hP 2 0 rfl rfl (i := 0) (gIn (by decide)) dX6_wordFrom_49 ?_
  refine lv_topi (fun v_8 ev_8 => ?_)
  have ev_8 : v_8 = 102 := ev_8.trans (by decide)
  subst ev_8
  refine lv_iload_n hx hb dX6_wordFrom_50 rfl (lv_at hl 4 rfl) ?_
  refine lv_iload hx hb dX6_wordFrom_51 (lv_at hl 0 rfl) ?_
  refine lv_iadd hx hb dX6_wordFrom_53 ?_
  refine lv_topi (fun v_9 ev_9 => ?_)
  have ev_9 : v_9 = 31 := ev_9.trans (by decide)
  subst ev_9
  refine lv_iload_n hx hb dX6_wordFrom_54 rfl (lv_at hl 5 rfl) ?_
  refine lv_icmp_ge (tgt := 70) hx hb dX6_wordFrom_55 (by decide) (fun c_10 => ?_) (fun c_10 => ?_)
  · exact absurd c_10 (by decide)
  refine lv_aload_n hx hb dX6_wordFrom_58 rfl (lv_at hl 3 rfl) ?_
  refine va_get (D := G.1) (ci := 6) (v := .ref tp) (C := RX6) (T := TX6) (N := 42) hx hb hts hiX6 hown hK hP 0 rfl rfl 6 (by decide) kf22 (fun _ h9 => h9) rfl dX6_wordFrom_59 ?_
  refine lv_iload_n hx hb dX6_wordFrom_62 rfl (lv_at hl 4 rfl) ?_
  refine lv_iload hx hb dX6_wordFrom_63 (lv_at hl 0 rfl) ?_
  refine lv_iadd hx hb dX6_wordFrom_65 ?_
  refine lv_topi (fun v_11 ev_11 => ?_)
  have ev_11 : v_11 = 31 := ev_11.trans (by decide)
  subst ev_11
  refine va_iald (D := G.1) hx hb hK hP 1 0 rfl rfl (i := 31) (gIn (by decide)) dX6_wordFrom_66 ?_
  refine lv_topi (fun v_12 ev_12 => ?_)
  have ev_12 : v_12 = 98 := ev_12.trans (by decide)
  subst ev_12
  refine lv_goto (tgt := 72) hx hb dX6_wordFrom_67 (by decide) ?_
  refine lv_icmp_ne (tgt := 79) hx hb dX6_wordFrom_72 (by decide) (fun c_13 => ?_) (fun c_13 => ?_)
  rotate_left
  · exact absurd c_13 (by decide)
  refine lv_iconst (v := 0) hx hb dX6_wordFrom_79 (by decide) ?_
  refine lv_istore (lv' := [(4, .int 0), (5, .int 0), (3, .int 0), (0, .ref h0), (1, .int 31), (2, .int 35)]) hx hb dX6_wordFrom_80 hl (by decide) rfl (fun ls hl => ?_)
  refine lv_iinc (v := 1) (lv' := [(5, .int 1), (4, .int 0), (3, .int 0), (0, .ref h0), (1, .int 31), (2, .int 35)]) hx hb dX6_wordFrom_82 hl (k := 1) rfl (by decide) (by decide) rfl (fun ls hl => ?_)
  refine lv_goto (tgt := 26) hx hb dX6_wordFrom_85 (by decide) ?_
  refine lv_iload hx hb dX6_wordFrom_26 (lv_at hl 0 rfl) ?_
  refine lv_bipush (v := 8) hx hb dX6_wordFrom_28 (by decide) ?_
  refine lv_icmp_ge (tgt := 88) hx hb dX6_wordFrom_30 (by decide) (fun c_14 => ?_) (fun c_14 => ?_)
  · exact absurd c_14 (by decide)
  refine lv_iload hx hb dX6_wordFrom_33 (lv_at hl 1 rfl) ?_
  refine lv_if_eq (tgt := 88) hx hb dX6_wordFrom_35 (by decide) (fun c_15 => ?_) (fun c_15 => ?_)
  rotate_left
  · exact absurd (by decide) c_15
  refine lv_iload hx hb dX6_wordFrom_88 (lv_at hl 1 rfl) ?_
  refine lv_if_eq (tgt := 95) hx hb dX6_wordFrom_90 (by decide) (fun c_16 => ?_) (fun c_16 => ?_)
  rotate_left
  · exact absurd (by decide) c_16
  refine lv_iinc (v := 1) (lv' := [(3, .int 1), (5, .int 1), (4, .int 0), (0, .ref h0), (1, .int 31), (2, .int 35)]) hx hb dX6_wordFrom_95 hl (k := 2) rfl (by decide) (by decide) rfl (fun ls hl => ?_)
  refine lv_goto (tgt := 2) hx hb dX6_wordFrom_98 (by decide) ?_
  refine lv_iload_n hx hb dX6_wordFrom_2 rfl (lv_at hl 0 rfl) ?_
  refine lv_bipush (v := 12) hx hb dX6_wordFrom_3 (by decide) ?_
  refine lv_icmp_ge (tgt := 101) hx hb dX6_wordFrom_5 (by decide) (fun c_17 => ?_) (fun c_17 => ?_)
  · exact absurd c_17 (by decide)
  refine lv_iload_n hx hb dX6_wordFrom_8 rfl (lv_at hl 5 rfl) ?_
  refine lv_iload_n hx hb dX6_wordFrom_9 rfl (lv_at hl 4 rfl) ?_
  refine lv_isub hx hb dX6_wordFrom_10 ?_
  refine lv_topi (fun v_18 ev_18 => ?_)
  have ev_18 : v_18 = 4 := ev_18.trans (by decide)
  subst ev_18
  refine lv_bipush (v := 8) hx hb dX6_wordFrom_11 (by decide) ?_
  refine lv_icmp_gt (tgt := 20) hx hb dX6_wordFrom_13 (by decide) (fun c_19 => ?_) (fun c_19 => ?_)
  · exact absurd c_19 (by decide)
  refine lv_iconst (v := 1) hx hb dX6_wordFrom_16 (by decide) ?_
  refine lv_goto (tgt := 21) hx hb dX6_wordFrom_17 (by decide) ?_
  refine lv_istore (lv' := [(4, .int 1), (3, .int 1), (5, .int 1), (0, .ref h0), (1, .int 31), (2, .int 35)]) hx hb dX6_wordFrom_21 hl (by decide) rfl (fun ls hl => ?_)
  refine lv_iconst (v := 0) hx hb dX6_wordFrom_23 (by decide) ?_
  refine lv_istore (lv' := [(5, .int 0), (4, .int 1), (3, .int 1), (0, .ref h0), (1, .int 31), (2, .int 35)]) hx hb dX6_wordFrom_24 hl (by decide) rfl (fun ls hl => ?_)
  refine lv_iload hx hb dX6_wordFrom_26 (lv_at hl 0 rfl) ?_
  refine lv_bipush (v := 8) hx hb dX6_wordFrom_28 (by decide) ?_
  refine lv_icmp_ge (tgt := 88) hx hb dX6_wordFrom_30 (by decide) (fun c_20 => ?_) (fun c_20 => ?_)
  · exact absurd c_20 (by decide)
  refine lv_iload hx hb dX6_wordFrom_33 (lv_at hl 1 rfl) ?_
  refine lv_if_eq (tgt := 88) hx hb dX6_wordFrom_35 (by decide) (fun c_21 => ?_) (fun c_21 => ?_)
  · exact absurd c_21 (by decide)
  refine lv_aload_n hx hb dX6_wordFrom_38 rfl (lv_at hl 3 rfl) ?_
  refine va_get (D := G.1) (ci := 6) (v := .ref wo) (C := RX6) (T := TX6) (N := 42) hx hb hts hiX6 hown hK hP 0 rfl rfl 23 (by decide) kf49 (fun _ h9 => h9) rfl dX6_wordFrom_39 ?_
  refine lv_bipush (v := 8) hx hb dX6_wordFrom_42 (by decide) ?_
  refine lv_iload_n hx hb dX6_wordFrom_44 rfl (lv_at hl 2 rfl) ?_
  refine lv_imul hx hb dX6_wordFrom_45 ?_
  refine lv_topi (fun v_22 ev_22 => ?_)
  have ev_22 : v_22 = 8 := ev_22.trans (by decide)
  subst ev_22
  refine lv_iload hx hb dX6_wordFrom_46 (lv_at hl 0 rfl) ?_
  refine lv_iadd hx hb dX6_wordFrom_48 ?_
  refine lv_topi (fun v_23 ev_23 => ?_)
  have ev_23 : v_23 = 8 := ev_23.trans (by decide)
  subst ev_23
  refine va_iald (D := G.1) hx hb hK hP 2 0 rfl rfl (i := 8) (gIn (by decide)) dX6_wordFrom_49 ?_
  refine lv_topi (fun v_24 ev_24 => ?_)
  have ev_24 : v_24 = 119 := ev_24.trans (by decide)
  subst ev_24
  refine lv_iload_n hx hb dX6_wordFrom_50 rfl (lv_at hl 4 rfl) ?_
  refine lv_iload hx hb dX6_wordFrom_51 (lv_at hl 0 rfl) ?_
  refine lv_iadd hx hb dX6_wordFrom_53 ?_
  refine lv_topi (fun v_25 ev_25 => ?_)
  have ev_25 : v_25 = 31 := ev_25.trans (by decide)
  subst ev_25
  refine lv_iload_n hx hb dX6_wordFrom_54 rfl (lv_at hl 5 rfl) ?_
  refine lv_icmp_ge (tgt := 70) hx hb dX6_wordFrom_55 (by decide) (fun c_26 => ?_) (fun c_26 => ?_)
  · exact absurd c_26 (by decide)
  refine lv_aload_n hx hb dX6_wordFrom_58 rfl (lv_at hl 3 rfl) ?_
  refine va_get (D := G.1) (ci := 6) (v := .ref tp) (C := RX6) (T := TX6) (N := 42) hx hb hts hiX6 hown hK hP 0 rfl rfl 6 (by decide) kf22 (fun _ h9 => h9) rfl dX6_wordFrom_59 ?_
  refine lv_iload_n hx hb dX6_wordFrom_62 rfl (lv_at hl 4 rfl) ?_
  refine lv_iload hx hb dX6_wordFrom_63 (lv_at hl 0 rfl) ?_
  refine lv_iadd hx hb dX6_wordFrom_65 ?_
  refine lv_topi (fun v_27 ev_27 => ?_)
  have ev_27 : v_27 = 31 := ev_27.trans (by decide)
  subst ev_27
  refine va_iald (D := G.1) hx hb hK hP 1 0 rfl rfl (i := 31) (gIn (by decide)) dX6_wordFrom_66 ?_
  refine lv_topi (fun v_28 ev_28 => ?_)
  have ev_28 : v_28 = 98 := ev_28.trans (by decide)
  subst ev_28
  refine lv_goto (tgt := 72) hx hb dX6_wordFrom_67 (by decide) ?_
  refine lv_icmp_ne (tgt := 79) hx hb dX6_wordFrom_72 (by decide) (fun c_29 => ?_) (fun c_29 => ?_)
  rotate_left
  · exact absurd c_29 (by decide)
  refine lv_iconst (v := 0) hx hb dX6_wordFrom_79 (by decide) ?_
  refine lv_istore (lv' := [(4, .int 0), (5, .int 0), (3, .int 1), (0, .ref h0), (1, .int 31), (2, .int 35)]) hx hb dX6_wordFrom_80 hl (by decide) rfl (fun ls hl => ?_)
  refine lv_iinc (v := 1) (lv' := [(5, .int 1), (4, .int 0), (3, .int 1), (0, .ref h0), (1, .int 31), (2, .int 35)]) hx hb dX6_wordFrom_82 hl (k := 1) rfl (by decide) (by decide) rfl (fun ls hl => ?_)
  refine lv_goto (tgt := 26) hx hb dX6_wordFrom_85 (by decide) ?_
  refine lv_iload hx hb dX6_wordFrom_26 (lv_at hl 0 rfl) ?_
  refine lv_bipush (v := 8) hx hb dX6_wordFrom_28 (by decide) ?_
  refine lv_icmp_ge (tgt := 88) hx hb dX6_wordFrom_30 (by decide) (fun c_30 => ?_) (fun c_30 => ?_)
  · exact absurd c_30 (by decide)
  refine lv_iload hx hb dX6_wordFrom_33 (lv_at hl 1 rfl) ?_
  refine lv_if_eq (tgt := 88) hx hb dX6_wordFrom_35 (by decide) (fun c_31 => ?_) (fun c_31 => ?_)
  rotate_left
  · exact absurd (by decide) c_31
  refine lv_iload hx hb dX6_wordFrom_88 (lv_at hl 1 rfl) ?_
  refine lv_if_eq (tgt := 95) hx hb dX6_wordFrom_90 (by decide) (fun c_32 => ?_) (fun c_32 => ?_)
  rotate_left
  · exact absurd (by decide) c_32
  refine lv_iinc (v := 2) (lv' := [(3, .int 2), (5, .int 1), (4, .int 0), (0, .ref h0), (1, .int 31), (2, .int 35)]) hx hb dX6_wordFrom_95 hl (k := 2) rfl (by decide) (by decide) rfl (fun ls hl => ?_)
  refine lv_goto (tgt := 2) hx hb dX6_wordFrom_98 (by decide) ?_
  refine lv_iload_n hx hb dX6_wordFrom_2 rfl (lv_at hl 0 rfl) ?_
  refine lv_bipush (v := 12) hx hb dX6_wordFrom_3 (by decide) ?_
  refine lv_icmp_ge (tgt := 101) hx hb dX6_wordFrom_5 (by decide) (fun c_33 => ?_) (fun c_33 => ?_)
  · exact absurd c_33 (by decide)
  refine lv_iload_n hx hb dX6_wordFrom_8 rfl (lv_at hl 5 rfl) ?_
  refine lv_iload_n hx hb dX6_wordFrom_9 rfl (lv_at hl 4 rfl) ?_
  refine lv_isub hx hb dX6_wordFrom_10 ?_
  refine lv_topi (fun v_34 ev_34 => ?_)
  have ev_34 : v_34 = 4 := ev_34.trans (by decide)
  subst ev_34
  refine lv_bipush (v := 8) hx hb dX6_wordFrom_11 (by decide) ?_
  refine lv_icmp_gt (tgt := 20) hx hb dX6_wordFrom_13 (by decide) (fun c_35 => ?_) (fun c_35 => ?_)
  · exact absurd c_35 (by decide)
  refine lv_iconst (v := 1) hx hb dX6_wordFrom_16 (by decide) ?_
  refine lv_goto (tgt := 21) hx hb dX6_wordFrom_17 (by decide) ?_
  refine lv_istore (lv' := [(4, .int 1), (3, .int 2), (5, .int 1), (0, .ref h0), (1, .int 31), (2, .int 35)]) hx hb dX6_wordFrom_21 hl (by decide) rfl (fun ls hl => ?_)
  refine lv_iconst (v := 0) hx hb dX6_wordFrom_23 (by decide) ?_
  refine lv_istore (lv' := [(5, .int 0), (4, .int 1), (3, .int 2), (0, .ref h0), (1, .int 31), (2, .int 35)]) hx hb dX6_wordFrom_24 hl (by decide) rfl (fun ls hl => ?_)
  refine lv_iload hx hb dX6_wordFrom_26 (lv_at hl 0 rfl) ?_
  refine lv_bipush (v := 8) hx hb dX6_wordFrom_28 (by decide) ?_
  refine lv_icmp_ge (tgt := 88) hx hb dX6_wordFrom_30 (by decide) (fun c_36 => ?_) (fun c_36 => ?_)
  · exact absurd c_36 (by decide)
  refine lv_iload hx hb dX6_wordFrom_33 (lv_at hl 1 rfl) ?_
  refine lv_if_eq (tgt := 88) hx hb dX6_wordFrom_35 (by decide) (fun c_37 => ?_) (fun c_37 => ?_)
  · exact absurd c_37 (by decide)
  refine lv_aload_n hx hb dX6_wordFrom_38 rfl (lv_at hl 3 rfl) ?_
  refine va_get (D := G.1) (ci := 6) (v := .ref wo) (C := RX6) (T := TX6) (N := 42) hx hb hts hiX6 hown hK hP 0 rfl rfl 23 (by decide) kf49 (fun _ h9 => h9) rfl dX6_wordFrom_39 ?_
  refine lv_bipush (v := 8) hx hb dX6_wordFrom_42 (by decide) ?_
  refine lv_iload_n hx hb dX6_wordFrom_44 rfl (lv_at hl 2 rfl) ?_
  refine lv_imul hx hb dX6_wordFrom_45 ?_
  refine lv_topi (fun v_38 ev_38 => ?_)
  have ev_38 : v_38 = 16 := ev_38.trans (by decide)
  subst ev_38
  refine lv_iload hx hb dX6_wordFrom_46 (lv_at hl 0 rfl) ?_
  refine lv_iadd hx hb dX6_wordFrom_48 ?_
  refine lv_topi (fun v_39 ev_39 => ?_)
  have ev_39 : v_39 = 16 := ev_39.trans (by decide)
  subst ev_39
  refine va_iald (D := G.1) hx hb hK hP 2 0 rfl rfl (i := 16) (gIn (by decide)) dX6_wordFrom_49 ?_
  refine lv_topi (fun v_40 ev_40 => ?_)
  have ev_40 : v_40 = 98 := ev_40.trans (by decide)
  subst ev_40
  refine lv_iload_n hx hb dX6_wordFrom_50 rfl (lv_at hl 4 rfl) ?_
  refine lv_iload hx hb dX6_wordFrom_51 (lv_at hl 0 rfl) ?_
  refine lv_iadd hx hb dX6_wordFrom_53 ?_
  refine lv_topi (fun v_41 ev_41 => ?_)
  have ev_41 : v_41 = 31 := ev_41.trans (by decide)
  subst ev_41
  refine lv_iload_n hx hb dX6_wordFrom_54 rfl (lv_at hl 5 rfl) ?_
  refine lv_icmp_ge (tgt := 70) hx hb dX6_wordFrom_55 (by decide) (fun c_42 => ?_) (fun c_42 => ?_)
  · exact absurd c_42 (by decide)
  refine lv_aload_n hx hb dX6_wordFrom_58 rfl (lv_at hl 3 rfl) ?_
  refine va_get (D := G.1) (ci := 6) (v := .ref tp) (C := RX6) (T := TX6) (N := 42) hx hb hts hiX6 hown hK hP 0 rfl rfl 6 (by decide) kf22 (fun _ h9 => h9) rfl dX6_wordFrom_59 ?_
  refine lv_iload_n hx hb dX6_wordFrom_62 rfl (lv_at hl 4 rfl) ?_
  refine lv_iload hx hb dX6_wordFrom_63 (lv_at hl 0 rfl) ?_
  refine lv_iadd hx hb dX6_wordFrom_65 ?_
  refine lv_topi (fun v_43 ev_43 => ?_)
  have ev_43 : v_43 = 31 := ev_43.trans (by decide)
  subst ev_43
  refine va_iald (D := G.1) hx hb hK hP 1 0 rfl rfl (i := 31) (gIn (by decide)) dX6_wordFrom_66 ?_
  refine lv_topi (fun v_44 ev_44 => ?_)
  have ev_44 : v_44 = 98 := ev_44.trans (by decide)
  subst ev_44
  refine lv_goto (tgt := 72) hx hb dX6_wordFrom_67 (by decide) ?_
  refine lv_icmp_ne (tgt := 79) hx hb dX6_wordFrom_72 (by decide) (fun c_45 => ?_) (fun c_45 => ?_)
  · exact absurd (by decide) c_45
  refine lv_iconst (v := 1) hx hb dX6_wordFrom_75 (by decide) ?_
  refine lv_goto (tgt := 80) hx hb dX6_wordFrom_76 (by decide) ?_
  refine lv_istore (lv' := [(4, .int 1), (5, .int 0), (3, .int 2), (0, .ref h0), (1, .int 31), (2, .int 35)]) hx hb dX6_wordFrom_80 hl (by decide) rfl (fun ls hl => ?_)
  refine lv_iinc (v := 1) (lv' := [(5, .int 1), (4, .int 1), (3, .int 2), (0, .ref h0), (1, .int 31), (2, .int 35)]) hx hb dX6_wordFrom_82 hl (k := 1) rfl (by decide) (by decide) rfl (fun ls hl => ?_)
  refine lv_goto (tgt := 26) hx hb dX6_wordFrom_85 (by decide) ?_
  refine lv_iload hx hb dX6_wordFrom_26 (lv_at hl 0 rfl) ?_
  refine lv_bipush (v := 8) hx hb dX6_wordFrom_28 (by decide) ?_
  refine lv_icmp_ge (tgt := 88) hx hb dX6_wordFrom_30 (by decide) (fun c_46 => ?_) (fun c_46 => ?_)
  · exact absurd c_46 (by decide)
  refine lv_iload hx hb dX6_wordFrom_33 (lv_at hl 1 rfl) ?_
  refine lv_if_eq (tgt := 88) hx hb dX6_wordFrom_35 (by decide) (fun c_47 => ?_) (fun c_47 => ?_)
  · exact absurd c_47 (by decide)
  refine lv_aload_n hx hb dX6_wordFrom_38 rfl (lv_at hl 3 rfl) ?_
  refine va_get (D := G.1) (ci := 6) (v := .ref wo) (C := RX6) (T := TX6) (N := 42) hx hb hts hiX6 hown hK hP 0 rfl rfl 23 (by decide) kf49 (fun _ h9 => h9) rfl dX6_wordFrom_39 ?_
  refine lv_bipush (v := 8) hx hb dX6_wordFrom_42 (by decide) ?_
  refine lv_iload_n hx hb dX6_wordFrom_44 rfl (lv_at hl 2 rfl) ?_
  refine lv_imul hx hb dX6_wordFrom_45 ?_
  refine lv_topi (fun v_48 ev_48 => ?_)
  have ev_48 : v_48 = 16 := ev_48.trans (by decide)
  subst ev_48
  refine lv_iload hx hb dX6_wordFrom_46 (lv_at hl 0 rfl) ?_
  refine lv_iadd hx hb dX6_wordFrom_48 ?_
  refine lv_topi (fun v_49 ev_49 => ?_)
  have ev_49 : v_49 = 17 := ev_49.trans (by decide)
  subst ev_49
  refine va_iald (D := G.1) hx hb hK hP 2 0 rfl rfl (i := 17) (gIn (by decide)) dX6_wordFrom_49 ?_
  refine lv_topi (fun v_50 ev_50 => ?_)
  have ev_50 : v_50 = 97 := ev_50.trans (by decide)
  subst ev_50
  refine lv_iload_n hx hb dX6_wordFrom_50 rfl (lv_at hl 4 rfl) ?_
  refine lv_iload hx hb dX6_wordFrom_51 (lv_at hl 0 rfl) ?_
  refine lv_iadd hx hb dX6_wordFrom_53 ?_
  refine lv_topi (fun v_51 ev_51 => ?_)
  have ev_51 : v_51 = 32 := ev_51.trans (by decide)
  subst ev_51
  refine lv_iload_n hx hb dX6_wordFrom_54 rfl (lv_at hl 5 rfl) ?_
  refine lv_icmp_ge (tgt := 70) hx hb dX6_wordFrom_55 (by decide) (fun c_52 => ?_) (fun c_52 => ?_)
  · exact absurd c_52 (by decide)
  refine lv_aload_n hx hb dX6_wordFrom_58 rfl (lv_at hl 3 rfl) ?_
  refine va_get (D := G.1) (ci := 6) (v := .ref tp) (C := RX6) (T := TX6) (N := 42) hx hb hts hiX6 hown hK hP 0 rfl rfl 6 (by decide) kf22 (fun _ h9 => h9) rfl dX6_wordFrom_59 ?_
  refine lv_iload_n hx hb dX6_wordFrom_62 rfl (lv_at hl 4 rfl) ?_
  refine lv_iload hx hb dX6_wordFrom_63 (lv_at hl 0 rfl) ?_
  refine lv_iadd hx hb dX6_wordFrom_65 ?_
  refine lv_topi (fun v_53 ev_53 => ?_)
  have ev_53 : v_53 = 32 := ev_53.trans (by decide)
  subst ev_53
  refine va_iald (D := G.1) hx hb hK hP 1 0 rfl rfl (i := 32) (gIn (by decide)) dX6_wordFrom_66 ?_
  refine lv_topi (fun v_54 ev_54 => ?_)
  have ev_54 : v_54 = 97 := ev_54.trans (by decide)
  subst ev_54
  refine lv_goto (tgt := 72) hx hb dX6_wordFrom_67 (by decide) ?_
  refine lv_icmp_ne (tgt := 79) hx hb dX6_wordFrom_72 (by decide) (fun c_55 => ?_) (fun c_55 => ?_)
  · exact absurd (by decide) c_55
  refine lv_iconst (v := 1) hx hb dX6_wordFrom_75 (by decide) ?_
  refine lv_goto (tgt := 80) hx hb dX6_wordFrom_76 (by decide) ?_
  refine lv_istore (lv' := [(4, .int 1), (5, .int 1), (3, .int 2), (0, .ref h0), (1, .int 31), (2, .int 35)]) hx hb dX6_wordFrom_80 hl (by decide) rfl (fun ls hl => ?_)
  refine lv_iinc (v := 2) (lv' := [(5, .int 2), (4, .int 1), (3, .int 2), (0, .ref h0), (1, .int 31), (2, .int 35)]) hx hb dX6_wordFrom_82 hl (k := 1) rfl (by decide) (by decide) rfl (fun ls hl => ?_)
  refine lv_goto (tgt := 26) hx hb dX6_wordFrom_85 (by decide) ?_
  refine lv_iload hx hb dX6_wordFrom_26 (lv_at hl 0 rfl) ?_
  refine lv_bipush (v := 8) hx hb dX6_wordFrom_28 (by decide) ?_
  refine lv_icmp_ge (tgt := 88) hx hb dX6_wordFrom_30 (by decide) (fun c_56 => ?_) (fun c_56 => ?_)
  · exact absurd c_56 (by decide)
  refine lv_iload hx hb dX6_wordFrom_33 (lv_at hl 1 rfl) ?_
  refine lv_if_eq (tgt := 88) hx hb dX6_wordFrom_35 (by decide) (fun c_57 => ?_) (fun c_57 => ?_)
  · exact absurd c_57 (by decide)
  refine lv_aload_n hx hb dX6_wordFrom_38 rfl (lv_at hl 3 rfl) ?_
  refine va_get (D := G.1) (ci := 6) (v := .ref wo) (C := RX6) (T := TX6) (N := 42) hx hb hts hiX6 hown hK hP 0 rfl rfl 23 (by decide) kf49 (fun _ h9 => h9) rfl dX6_wordFrom_39 ?_
  refine lv_bipush (v := 8) hx hb dX6_wordFrom_42 (by decide) ?_
  refine lv_iload_n hx hb dX6_wordFrom_44 rfl (lv_at hl 2 rfl) ?_
  refine lv_imul hx hb dX6_wordFrom_45 ?_
  refine lv_topi (fun v_58 ev_58 => ?_)
  have ev_58 : v_58 = 16 := ev_58.trans (by decide)
  subst ev_58
  refine lv_iload hx hb dX6_wordFrom_46 (lv_at hl 0 rfl) ?_
  refine lv_iadd hx hb dX6_wordFrom_48 ?_
  refine lv_topi (fun v_59 ev_59 => ?_)
  have ev_59 : v_59 = 18 := ev_59.trans (by decide)
  subst ev_59
  refine va_iald (D := G.1) hx hb hK hP 2 0 rfl rfl (i := 18) (gIn (by decide)) dX6_wordFrom_49 ?_
  refine lv_topi (fun v_60 ev_60 => ?_)
  have ev_60 : v_60 = 114 := ev_60.trans (by decide)
  subst ev_60
  refine lv_iload_n hx hb dX6_wordFrom_50 rfl (lv_at hl 4 rfl) ?_
  refine lv_iload hx hb dX6_wordFrom_51 (lv_at hl 0 rfl) ?_
  refine lv_iadd hx hb dX6_wordFrom_53 ?_
  refine lv_topi (fun v_61 ev_61 => ?_)
  have ev_61 : v_61 = 33 := ev_61.trans (by decide)
  subst ev_61
  refine lv_iload_n hx hb dX6_wordFrom_54 rfl (lv_at hl 5 rfl) ?_
  refine lv_icmp_ge (tgt := 70) hx hb dX6_wordFrom_55 (by decide) (fun c_62 => ?_) (fun c_62 => ?_)
  · exact absurd c_62 (by decide)
  refine lv_aload_n hx hb dX6_wordFrom_58 rfl (lv_at hl 3 rfl) ?_
  refine va_get (D := G.1) (ci := 6) (v := .ref tp) (C := RX6) (T := TX6) (N := 42) hx hb hts hiX6 hown hK hP 0 rfl rfl 6 (by decide) kf22 (fun _ h9 => h9) rfl dX6_wordFrom_59 ?_
  refine lv_iload_n hx hb dX6_wordFrom_62 rfl (lv_at hl 4 rfl) ?_
  refine lv_iload hx hb dX6_wordFrom_63 (lv_at hl 0 rfl) ?_
  refine lv_iadd hx hb dX6_wordFrom_65 ?_
  refine lv_topi (fun v_63 ev_63 => ?_)
  have ev_63 : v_63 = 33 := ev_63.trans (by decide)
  subst ev_63
  refine va_iald (D := G.1) hx hb hK hP 1 0 rfl rfl (i := 33) (gIn (by decide)) dX6_wordFrom_66 ?_
  refine lv_topi (fun v_64 ev_64 => ?_)
  have ev_64 : v_64 = 114 := ev_64.trans (by decide)
  subst ev_64
  refine lv_goto (tgt := 72) hx hb dX6_wordFrom_67 (by decide) ?_
  refine lv_icmp_ne (tgt := 79) hx hb dX6_wordFrom_72 (by decide) (fun c_65 => ?_) (fun c_65 => ?_)
  · exact absurd (by decide) c_65
  refine lv_iconst (v := 1) hx hb dX6_wordFrom_75 (by decide) ?_
  refine lv_goto (tgt := 80) hx hb dX6_wordFrom_76 (by decide) ?_
  refine lv_istore (lv' := [(4, .int 1), (5, .int 2), (3, .int 2), (0, .ref h0), (1, .int 31), (2, .int 35)]) hx hb dX6_wordFrom_80 hl (by decide) rfl (fun ls hl => ?_)
  refine lv_iinc (v := 3) (lv' := [(5, .int 3), (4, .int 1), (3, .int 2), (0, .ref h0), (1, .int 31), (2, .int 35)]) hx hb dX6_wordFrom_82 hl (k := 1) rfl (by decide) (by decide) rfl (fun ls hl => ?_)
  refine lv_goto (tgt := 26) hx hb dX6_wordFrom_85 (by decide) ?_
  refine lv_iload hx hb dX6_wordFrom_26 (lv_at hl 0 rfl) ?_
  refine lv_bipush (v := 8) hx hb dX6_wordFrom_28 (by decide) ?_
  refine lv_icmp_ge (tgt := 88) hx hb dX6_wordFrom_30 (by decide) (fun c_66 => ?_) (fun c_66 => ?_)
  · exact absurd c_66 (by decide)
  refine lv_iload hx hb dX6_wordFrom_33 (lv_at hl 1 rfl) ?_
  refine lv_if_eq (tgt := 88) hx hb dX6_wordFrom_35 (by decide) (fun c_67 => ?_) (fun c_67 => ?_)
  · exact absurd c_67 (by decide)
  refine lv_aload_n hx hb dX6_wordFrom_38 rfl (lv_at hl 3 rfl) ?_
  refine va_get (D := G.1) (ci := 6) (v := .ref wo) (C := RX6) (T := TX6) (N := 42) hx hb hts hiX6 hown hK hP 0 rfl rfl 23 (by decide) kf49 (fun _ h9 => h9) rfl dX6_wordFrom_39 ?_
  refine lv_bipush (v := 8) hx hb dX6_wordFrom_42 (by decide) ?_
  refine lv_iload_n hx hb dX6_wordFrom_44 rfl (lv_at hl 2 rfl) ?_
  refine lv_imul hx hb dX6_wordFrom_45 ?_
  refine lv_topi (fun v_68 ev_68 => ?_)
  have ev_68 : v_68 = 16 := ev_68.trans (by decide)
  subst ev_68
  refine lv_iload hx hb dX6_wordFrom_46 (lv_at hl 0 rfl) ?_
  refine lv_iadd hx hb dX6_wordFrom_48 ?_
  refine lv_topi (fun v_69 ev_69 => ?_)
  have ev_69 : v_69 = 19 := ev_69.trans (by decide)
  subst ev_69
  refine va_iald (D := G.1) hx hb hK hP 2 0 rfl rfl (i := 19) (gIn (by decide)) dX6_wordFrom_49 ?_
  refine lv_topi (fun v_70 ev_70 => ?_)
  have ev_70 : v_70 = 115 := ev_70.trans (by decide)
  subst ev_70
  refine lv_iload_n hx hb dX6_wordFrom_50 rfl (lv_at hl 4 rfl) ?_
  refine lv_iload hx hb dX6_wordFrom_51 (lv_at hl 0 rfl) ?_
  refine lv_iadd hx hb dX6_wordFrom_53 ?_
  refine lv_topi (fun v_71 ev_71 => ?_)
  have ev_71 : v_71 = 34 := ev_71.trans (by decide)
  subst ev_71
  refine lv_iload_n hx hb dX6_wordFrom_54 rfl (lv_at hl 5 rfl) ?_
  refine lv_icmp_ge (tgt := 70) hx hb dX6_wordFrom_55 (by decide) (fun c_72 => ?_) (fun c_72 => ?_)
  · exact absurd c_72 (by decide)
  refine lv_aload_n hx hb dX6_wordFrom_58 rfl (lv_at hl 3 rfl) ?_
  refine va_get (D := G.1) (ci := 6) (v := .ref tp) (C := RX6) (T := TX6) (N := 42) hx hb hts hiX6 hown hK hP 0 rfl rfl 6 (by decide) kf22 (fun _ h9 => h9) rfl dX6_wordFrom_59 ?_
  refine lv_iload_n hx hb dX6_wordFrom_62 rfl (lv_at hl 4 rfl) ?_
  refine lv_iload hx hb dX6_wordFrom_63 (lv_at hl 0 rfl) ?_
  refine lv_iadd hx hb dX6_wordFrom_65 ?_
  refine lv_topi (fun v_73 ev_73 => ?_)
  have ev_73 : v_73 = 34 := ev_73.trans (by decide)
  subst ev_73
  refine va_iald (D := G.1) hx hb hK hP 1 0 rfl rfl (i := 34) (gIn (by decide)) dX6_wordFrom_66 ?_
  refine lv_topi (fun v_74 ev_74 => ?_)
  have ev_74 : v_74 = 115 := ev_74.trans (by decide)
  subst ev_74
  refine lv_goto (tgt := 72) hx hb dX6_wordFrom_67 (by decide) ?_
  refine lv_icmp_ne (tgt := 79) hx hb dX6_wordFrom_72 (by decide) (fun c_75 => ?_) (fun c_75 => ?_)
  · exact absurd (by decide) c_75
  refine lv_iconst (v := 1) hx hb dX6_wordFrom_75 (by decide) ?_
  refine lv_goto (tgt := 80) hx hb dX6_wordFrom_76 (by decide) ?_
  refine lv_istore (lv' := [(4, .int 1), (5, .int 3), (3, .int 2), (0, .ref h0), (1, .int 31), (2, .int 35)]) hx hb dX6_wordFrom_80 hl (by decide) rfl (fun ls hl => ?_)
  refine lv_iinc (v := 4) (lv' := [(5, .int 4), (4, .int 1), (3, .int 2), (0, .ref h0), (1, .int 31), (2, .int 35)]) hx hb dX6_wordFrom_82 hl (k := 1) rfl (by decide) (by decide) rfl (fun ls hl => ?_)
  refine lv_goto (tgt := 26) hx hb dX6_wordFrom_85 (by decide) ?_
  refine lv_iload hx hb dX6_wordFrom_26 (lv_at hl 0 rfl) ?_
  refine lv_bipush (v := 8) hx hb dX6_wordFrom_28 (by decide) ?_
  refine lv_icmp_ge (tgt := 88) hx hb dX6_wordFrom_30 (by decide) (fun c_76 => ?_) (fun c_76 => ?_)
  · exact absurd c_76 (by decide)
  refine lv_iload hx hb dX6_wordFrom_33 (lv_at hl 1 rfl) ?_
  refine lv_if_eq (tgt := 88) hx hb dX6_wordFrom_35 (by decide) (fun c_77 => ?_) (fun c_77 => ?_)
  · exact absurd c_77 (by decide)
  refine lv_aload_n hx hb dX6_wordFrom_38 rfl (lv_at hl 3 rfl) ?_
  refine va_get (D := G.1) (ci := 6) (v := .ref wo) (C := RX6) (T := TX6) (N := 42) hx hb hts hiX6 hown hK hP 0 rfl rfl 23 (by decide) kf49 (fun _ h9 => h9) rfl dX6_wordFrom_39 ?_
  refine lv_bipush (v := 8) hx hb dX6_wordFrom_42 (by decide) ?_
  refine lv_iload_n hx hb dX6_wordFrom_44 rfl (lv_at hl 2 rfl) ?_
  refine lv_imul hx hb dX6_wordFrom_45 ?_
  refine lv_topi (fun v_78 ev_78 => ?_)
  have ev_78 : v_78 = 16 := ev_78.trans (by decide)
  subst ev_78
  refine lv_iload hx hb dX6_wordFrom_46 (lv_at hl 0 rfl) ?_
  refine lv_iadd hx hb dX6_wordFrom_48 ?_
  refine lv_topi (fun v_79 ev_79 => ?_)
  have ev_79 : v_79 = 20 := ev_79.trans (by decide)
  subst ev_79
  refine va_iald (D := G.1) hx hb hK hP 2 0 rfl rfl (i := 20) (gIn (by decide)) dX6_wordFrom_49 ?_
  refine lv_topi (fun v_80 ev_80 => ?_)
  have ev_80 : v_80 = 32 := ev_80.trans (by decide)
  subst ev_80
  refine lv_iload_n hx hb dX6_wordFrom_50 rfl (lv_at hl 4 rfl) ?_
  refine lv_iload hx hb dX6_wordFrom_51 (lv_at hl 0 rfl) ?_
  refine lv_iadd hx hb dX6_wordFrom_53 ?_
  refine lv_topi (fun v_81 ev_81 => ?_)
  have ev_81 : v_81 = 35 := ev_81.trans (by decide)
  subst ev_81
  refine lv_iload_n hx hb dX6_wordFrom_54 rfl (lv_at hl 5 rfl) ?_
  refine lv_icmp_ge (tgt := 70) hx hb dX6_wordFrom_55 (by decide) (fun c_82 => ?_) (fun c_82 => ?_)
  rotate_left
  · exact absurd (by decide) c_82
  refine lv_bipush (v := 32) hx hb dX6_wordFrom_70 (by decide) ?_
  refine lv_icmp_ne (tgt := 79) hx hb dX6_wordFrom_72 (by decide) (fun c_83 => ?_) (fun c_83 => ?_)
  · exact absurd (by decide) c_83
  refine lv_iconst (v := 1) hx hb dX6_wordFrom_75 (by decide) ?_
  refine lv_goto (tgt := 80) hx hb dX6_wordFrom_76 (by decide) ?_
  refine lv_istore (lv' := [(4, .int 1), (5, .int 4), (3, .int 2), (0, .ref h0), (1, .int 31), (2, .int 35)]) hx hb dX6_wordFrom_80 hl (by decide) rfl (fun ls hl => ?_)
  refine lv_iinc (v := 5) (lv' := [(5, .int 5), (4, .int 1), (3, .int 2), (0, .ref h0), (1, .int 31), (2, .int 35)]) hx hb dX6_wordFrom_82 hl (k := 1) rfl (by decide) (by decide) rfl (fun ls hl => ?_)
  refine lv_goto (tgt := 26) hx hb dX6_wordFrom_85 (by decide) ?_
  refine lv_iload hx hb dX6_wordFrom_26 (lv_at hl 0 rfl) ?_
  refine lv_bipush (v := 8) hx hb dX6_wordFrom_28 (by decide) ?_
  refine lv_icmp_ge (tgt := 88) hx hb dX6_wordFrom_30 (by decide) (fun c_84 => ?_) (fun c_84 => ?_)
  · exact absurd c_84 (by decide)
  refine lv_iload hx hb dX6_wordFrom_33 (lv_at hl 1 rfl) ?_
  refine lv_if_eq (tgt := 88) hx hb dX6_wordFrom_35 (by decide) (fun c_85 => ?_) (fun c_85 => ?_)
  · exact absurd c_85 (by decide)
  refine lv_aload_n hx hb dX6_wordFrom_38 rfl (lv_at hl 3 rfl) ?_
  refine va_get (D := G.1) (ci := 6) (v := .ref wo) (C := RX6) (T := TX6) (N := 42) hx hb hts hiX6 hown hK hP 0 rfl rfl 23 (by decide) kf49 (fun _ h9 => h9) rfl dX6_wordFrom_39 ?_
  refine lv_bipush (v := 8) hx hb dX6_wordFrom_42 (by decide) ?_
  refine lv_iload_n hx hb dX6_wordFrom_44 rfl (lv_at hl 2 rfl) ?_
  refine lv_imul hx hb dX6_wordFrom_45 ?_
  refine lv_topi (fun v_86 ev_86 => ?_)
  have ev_86 : v_86 = 16 := ev_86.trans (by decide)
  subst ev_86
  refine lv_iload hx hb dX6_wordFrom_46 (lv_at hl 0 rfl) ?_
  refine lv_iadd hx hb dX6_wordFrom_48 ?_
  refine lv_topi (fun v_87 ev_87 => ?_)
  have ev_87 : v_87 = 21 := ev_87.trans (by decide)
  subst ev_87
  refine va_iald (D := G.1) hx hb hK hP 2 0 rfl rfl (i := 21) (gIn (by decide)) dX6_wordFrom_49 ?_
  refine lv_topi (fun v_88 ev_88 => ?_)
  have ev_88 : v_88 = 32 := ev_88.trans (by decide)
  subst ev_88
  refine lv_iload_n hx hb dX6_wordFrom_50 rfl (lv_at hl 4 rfl) ?_
  refine lv_iload hx hb dX6_wordFrom_51 (lv_at hl 0 rfl) ?_
  refine lv_iadd hx hb dX6_wordFrom_53 ?_
  refine lv_topi (fun v_89 ev_89 => ?_)
  have ev_89 : v_89 = 36 := ev_89.trans (by decide)
  subst ev_89
  refine lv_iload_n hx hb dX6_wordFrom_54 rfl (lv_at hl 5 rfl) ?_
  refine lv_icmp_ge (tgt := 70) hx hb dX6_wordFrom_55 (by decide) (fun c_90 => ?_) (fun c_90 => ?_)
  rotate_left
  · exact absurd (by decide) c_90
  refine lv_bipush (v := 32) hx hb dX6_wordFrom_70 (by decide) ?_
  refine lv_icmp_ne (tgt := 79) hx hb dX6_wordFrom_72 (by decide) (fun c_91 => ?_) (fun c_91 => ?_)
  · exact absurd (by decide) c_91
  refine lv_iconst (v := 1) hx hb dX6_wordFrom_75 (by decide) ?_
  refine lv_goto (tgt := 80) hx hb dX6_wordFrom_76 (by decide) ?_
  refine lv_istore (lv' := [(4, .int 1), (5, .int 5), (3, .int 2), (0, .ref h0), (1, .int 31), (2, .int 35)]) hx hb dX6_wordFrom_80 hl (by decide) rfl (fun ls hl => ?_)
  refine lv_iinc (v := 6) (lv' := [(5, .int 6), (4, .int 1), (3, .int 2), (0, .ref h0), (1, .int 31), (2, .int 35)]) hx hb dX6_wordFrom_82 hl (k := 1) rfl (by decide) (by decide) rfl (fun ls hl => ?_)
  refine lv_goto (tgt := 26) hx hb dX6_wordFrom_85 (by decide) ?_
  refine lv_iload hx hb dX6_wordFrom_26 (lv_at hl 0 rfl) ?_
  refine lv_bipush (v := 8) hx hb dX6_wordFrom_28 (by decide) ?_
  refine lv_icmp_ge (tgt := 88) hx hb dX6_wordFrom_30 (by decide) (fun c_92 => ?_) (fun c_92 => ?_)
  · exact absurd c_92 (by decide)
  refine lv_iload hx hb dX6_wordFrom_33 (lv_at hl 1 rfl) ?_
  refine lv_if_eq (tgt := 88) hx hb dX6_wordFrom_35 (by decide) (fun c_93 => ?_) (fun c_93 => ?_)
  · exact absurd c_93 (by decide)
  refine lv_aload_n hx hb dX6_wordFrom_38 rfl (lv_at hl 3 rfl) ?_
  refine va_get (D := G.1) (ci := 6) (v := .ref wo) (C := RX6) (T := TX6) (N := 42) hx hb hts hiX6 hown hK hP 0 rfl rfl 23 (by decide) kf49 (fun _ h9 => h9) rfl dX6_wordFrom_39 ?_
  refine lv_bipush (v := 8) hx hb dX6_wordFrom_42 (by decide) ?_
  refine lv_iload_n hx hb dX6_wordFrom_44 rfl (lv_at hl 2 rfl) ?_
  refine lv_imul hx hb dX6_wordFrom_45 ?_
  refine lv_topi (fun v_94 ev_94 => ?_)
  have ev_94 : v_94 = 16 := ev_94.trans (by decide)
  subst ev_94
  refine lv_iload hx hb dX6_wordFrom_46 (lv_at hl 0 rfl) ?_
  refine lv_iadd hx hb dX6_wordFrom_48 ?_
  refine lv_topi (fun v_95 ev_95 => ?_)
  have ev_95 : v_95 = 22 := ev_95.trans (by decide)
  subst ev_95
  refine va_iald (D := G.1) hx hb hK hP 2 0 rfl rfl (i := 22) (gIn (by decide)) dX6_wordFrom_49 ?_
  refine lv_topi (fun v_96 ev_96 => ?_)
  have ev_96 : v_96 = 32 := ev_96.trans (by decide)
  subst ev_96
  refine lv_iload_n hx hb dX6_wordFrom_50 rfl (lv_at hl 4 rfl) ?_
  refine lv_iload hx hb dX6_wordFrom_51 (lv_at hl 0 rfl) ?_
  refine lv_iadd hx hb dX6_wordFrom_53 ?_
  refine lv_topi (fun v_97 ev_97 => ?_)
  have ev_97 : v_97 = 37 := ev_97.trans (by decide)
  subst ev_97
  refine lv_iload_n hx hb dX6_wordFrom_54 rfl (lv_at hl 5 rfl) ?_
  refine lv_icmp_ge (tgt := 70) hx hb dX6_wordFrom_55 (by decide) (fun c_98 => ?_) (fun c_98 => ?_)
  rotate_left
  · exact absurd (by decide) c_98
  refine lv_bipush (v := 32) hx hb dX6_wordFrom_70 (by decide) ?_
  refine lv_icmp_ne (tgt := 79) hx hb dX6_wordFrom_72 (by decide) (fun c_99 => ?_) (fun c_99 => ?_)
  · exact absurd (by decide) c_99
  refine lv_iconst (v := 1) hx hb dX6_wordFrom_75 (by decide) ?_
  refine lv_goto (tgt := 80) hx hb dX6_wordFrom_76 (by decide) ?_
  refine lv_istore (lv' := [(4, .int 1), (5, .int 6), (3, .int 2), (0, .ref h0), (1, .int 31), (2, .int 35)]) hx hb dX6_wordFrom_80 hl (by decide) rfl (fun ls hl => ?_)
  refine lv_iinc (v := 7) (lv' := [(5, .int 7), (4, .int 1), (3, .int 2), (0, .ref h0), (1, .int 31), (2, .int 35)]) hx hb dX6_wordFrom_82 hl (k := 1) rfl (by decide) (by decide) rfl (fun ls hl => ?_)
  refine lv_goto (tgt := 26) hx hb dX6_wordFrom_85 (by decide) ?_
  refine lv_iload hx hb dX6_wordFrom_26 (lv_at hl 0 rfl) ?_
  refine lv_bipush (v := 8) hx hb dX6_wordFrom_28 (by decide) ?_
  refine lv_icmp_ge (tgt := 88) hx hb dX6_wordFrom_30 (by decide) (fun c_100 => ?_) (fun c_100 => ?_)
  · exact absurd c_100 (by decide)
  refine lv_iload hx hb dX6_wordFrom_33 (lv_at hl 1 rfl) ?_
  refine lv_if_eq (tgt := 88) hx hb dX6_wordFrom_35 (by decide) (fun c_101 => ?_) (fun c_101 => ?_)
  · exact absurd c_101 (by decide)
  refine lv_aload_n hx hb dX6_wordFrom_38 rfl (lv_at hl 3 rfl) ?_
  refine va_get (D := G.1) (ci := 6) (v := .ref wo) (C := RX6) (T := TX6) (N := 42) hx hb hts hiX6 hown hK hP 0 rfl rfl 23 (by decide) kf49 (fun _ h9 => h9) rfl dX6_wordFrom_39 ?_
  refine lv_bipush (v := 8) hx hb dX6_wordFrom_42 (by decide) ?_
  refine lv_iload_n hx hb dX6_wordFrom_44 rfl (lv_at hl 2 rfl) ?_
  refine lv_imul hx hb dX6_wordFrom_45 ?_
  refine lv_topi (fun v_102 ev_102 => ?_)
  have ev_102 : v_102 = 16 := ev_102.trans (by decide)
  subst ev_102
  refine lv_iload hx hb dX6_wordFrom_46 (lv_at hl 0 rfl) ?_
  refine lv_iadd hx hb dX6_wordFrom_48 ?_
  refine lv_topi (fun v_103 ev_103 => ?_)
  have ev_103 : v_103 = 23 := ev_103.trans (by decide)
  subst ev_103
  refine va_iald (D := G.1) hx hb hK hP 2 0 rfl rfl (i := 23) (gIn (by decide)) dX6_wordFrom_49 ?_
  refine lv_topi (fun v_104 ev_104 => ?_)
  have ev_104 : v_104 = 32 := ev_104.trans (by decide)
  subst ev_104
  refine lv_iload_n hx hb dX6_wordFrom_50 rfl (lv_at hl 4 rfl) ?_
  refine lv_iload hx hb dX6_wordFrom_51 (lv_at hl 0 rfl) ?_
  refine lv_iadd hx hb dX6_wordFrom_53 ?_
  refine lv_topi (fun v_105 ev_105 => ?_)
  have ev_105 : v_105 = 38 := ev_105.trans (by decide)
  subst ev_105
  refine lv_iload_n hx hb dX6_wordFrom_54 rfl (lv_at hl 5 rfl) ?_
  refine lv_icmp_ge (tgt := 70) hx hb dX6_wordFrom_55 (by decide) (fun c_106 => ?_) (fun c_106 => ?_)
  rotate_left
  · exact absurd (by decide) c_106
  refine lv_bipush (v := 32) hx hb dX6_wordFrom_70 (by decide) ?_
  refine lv_icmp_ne (tgt := 79) hx hb dX6_wordFrom_72 (by decide) (fun c_107 => ?_) (fun c_107 => ?_)
  · exact absurd (by decide) c_107
  refine lv_iconst (v := 1) hx hb dX6_wordFrom_75 (by decide) ?_
  refine lv_goto (tgt := 80) hx hb dX6_wordFrom_76 (by decide) ?_
  refine lv_istore (lv' := [(4, .int 1), (5, .int 7), (3, .int 2), (0, .ref h0), (1, .int 31), (2, .int 35)]) hx hb dX6_wordFrom_80 hl (by decide) rfl (fun ls hl => ?_)
  refine lv_iinc (v := 8) (lv' := [(5, .int 8), (4, .int 1), (3, .int 2), (0, .ref h0), (1, .int 31), (2, .int 35)]) hx hb dX6_wordFrom_82 hl (k := 1) rfl (by decide) (by decide) rfl (fun ls hl => ?_)
  refine lv_goto (tgt := 26) hx hb dX6_wordFrom_85 (by decide) ?_
  refine lv_iload hx hb dX6_wordFrom_26 (lv_at hl 0 rfl) ?_
  refine lv_bipush (v := 8) hx hb dX6_wordFrom_28 (by decide) ?_
  refine lv_icmp_ge (tgt := 88) hx hb dX6_wordFrom_30 (by decide) (fun c_108 => ?_) (fun c_108 => ?_)
  rotate_left
  · exact absurd (by decide) c_108
  refine lv_iload hx hb dX6_wordFrom_88 (lv_at hl 1 rfl) ?_
  refine lv_if_eq (tgt := 95) hx hb dX6_wordFrom_90 (by decide) (fun c_109 => ?_) (fun c_109 => ?_)
  · exact absurd c_109 (by decide)
  refine lv_iload_n hx hb dX6_wordFrom_93 rfl (lv_at hl 2 rfl) ?_
  have hP9 := hP.sub (ws' := [(h0, .inr (6, [.int 0, .ref kd, .ref mo, .ref st, .int 0, .ref ro, .ref tp, .int 40, .ref cd, .ref sr, .int 0, .int 0, .int 0, .ref ir, .ref ih, .ref ss, .ref sq, .ref ce, .ref lw, .int 35, .int 31, .int 0, .int 0, .ref wo, .ref he, .int 0, .int 0, .int 4, .ref sk, .ref na, .ref kp, .int 0, .int 0, .int 0, .int 0, .ref gb, .ref go, .ref fa, .ref ga, .int 0, .int 0, .ref vo])), (tp, .inl (G.2.1, 160, .inl (gPf tB 40))), (wo, .inl (G.2.1, 96, .inl (gPf tW 96)))]) [0, 1, 2] rfl
  have hD9 := hD.sub (ws' := [(h0, .inr (6, [.int 0, .ref kd, .ref mo, .ref st, .int 0, .ref ro, .ref tp, .int 40, .ref cd, .ref sr, .int 0, .int 0, .int 0, .ref ir, .ref ih, .ref ss, .ref sq, .ref ce, .ref lw, .int 35, .int 31, .int 0, .int 0, .ref wo, .ref he, .int 0, .int 0, .int 4, .ref sk, .ref na, .ref kp, .int 0, .int 0, .int 0, .int 0, .ref gb, .ref go, .ref fa, .ref ga, .int 0, .int 0, .ref vo])), (tp, .inl (G.2.1, 160, .inl (gPf tB 40))), (wo, .inl (G.2.1, 96, .inl (gPf tW 96)))]) [0, 1, 2] (by decide) rfl
  have hpost : (fun (r : Int32) (u : Unit) => match u with | _ => r = 2) 2 () := by first | rfl | trivial
  exact W.iret (v := 2) hx hb hr (fun t ht hW => ⟨⟨2, (), rfl, hpost, by rw [ht]; exact hP9, va_K.moved hW.alike hK, hD9⟩, hS.F ht⟩) hS.2.2 dX6_wordFrom_94
abbrev q_X6_next_z50 (G : gG) (h0 kd mo st ro tp cd sr ir ih ss sq ce lw wo he sk na kp gb go fa ga vo : Nat) (A : Nat → Prop) : Array Value → State → Outcome → State → Prop := va_Qv (fun (u : Unit) => match u with | _ => True) (fun (u : Unit) t => match u with | _ => va_P G.1 vwCl [(h0, .inr (6, [.int 0, .ref kd, .ref mo, .ref st, .int 0, .ref ro, .ref tp, .int 40, .ref cd, .ref sr, .int 0, .int 0, .int 0, .ref ir, .ref ih, .ref ss, .ref sq, .ref ce, .ref lw, .int 35, .int 31, .int 3, .int 2, .ref wo, .ref he, .int 0, .int 0, .int 4, .ref sk, .ref na, .ref kp, .int 0, .int 0, .int 0, .int 0, .ref gb, .ref go, .ref fa, .ref ga, .int 0, .int 0, .ref vo])), (tp, .inl (G.2.1, 160, .inl (gPf tB 40))), (wo, .inl (G.2.1, 96, .inl (gPf tW 96)))] t.heap ∧ gK G t ∧ va_D A [(h0, .inr (6, [.int 0, .ref kd, .ref mo, .ref st, .int 0, .ref ro, .ref tp, .int 40, .ref cd, .ref sr, .int 0, .int 0, .int 0, .ref ir, .ref ih, .ref ss, .ref sq, .ref ce, .ref lw, .int 35, .int 31, .int 3, .int 2, .ref wo, .ref he, .int 0, .int 0, .int 4, .ref sk, .ref na, .ref kp, .int 0, .int 0, .int 0, .int 0, .ref gb, .ref go, .ref fa, .ref ga, .int 0, .int 0, .ref vo])), (tp, .inl (G.2.1, 160, .inl (gPf tB 40))), (wo, .inl (G.2.1, 96, .inl (gPf tW 96)))]) A
set_option maxHeartbeats 4000000 in
set_option maxRecDepth 100000 in
theorem c_X6_next_z50 (l : Launch) (G : gG) (h0 kd mo st ro tp cd sr ir ih ss sq ce lw wo he sk na kp gb go fa ga vo : Nat) (sz : Nat) : Met l yX6_next wsX6_next ({ frames := 1, cells := 0, slots := 0, locals := 25 }) (gPre G [.ref h0] [(h0, .inr (6, [.int 0, .ref kd, .ref mo, .ref st, .int 0, .ref ro, .ref tp, .int 40, .ref cd, .ref sr, .int 0, .int 0, .int 0, .ref ir, .ref ih, .ref ss, .ref sq, .ref ce, .ref lw, .int 30, .int 29, .int 59, .int 0, .ref wo, .ref he, .int 0, .int 0, .int 4, .ref sk, .ref na, .ref kp, .int 0, .int 0, .int 0, .int 0, .ref gb, .ref go, .ref fa, .ref ga, .int 0, .int 0, .ref vo])), (tp, .inl (G.2.1, 160, .inl (gPf tB 40))), (wo, .inl (G.2.1, 96, .inl (gPf tW 96)))] sz) (q_X6_next_z50 G h0 kd mo st ro tp cd sr ir ih ss sq ce lw wo he sk na kp gb go fa ga vo (va_A [(h0, .inr (6, [.int 0, .ref kd, .ref mo, .ref st, .int 0, .ref ro, .ref tp, .int 40, .ref cd, .ref sr, .int 0, .int 0, .int 0, .ref ir, .ref ih, .ref ss, .ref sq, .ref ce, .ref lw, .int 30, .int 29, .int 59, .int 0, .ref wo, .ref he, .int 0, .int 0, .int 4, .ref sk, .ref na, .ref kp, .int 0, .int 0, .int 0, .int 0, .ref gb, .ref go, .ref fa, .ref ga, .int 0, .int 0, .ref vo])), (tp, .inl (G.2.1, 160, .inl (gPf tB 40))), (wo, .inl (G.2.1, 96, .inl (gPf tW 96)))] sz)) 0 0 (va_A [(h0, .inr (6, [.int 0, .ref kd, .ref mo, .ref st, .int 0, .ref ro, .ref tp, .int 40, .ref cd, .ref sr, .int 0, .int 0, .int 0, .ref ir, .ref ih, .ref ss, .ref sq, .ref ce, .ref lw, .int 30, .int 29, .int 59, .int 0, .ref wo, .ref he, .int 0, .int 0, .int 4, .ref sk, .ref na, .ref kp, .int 0, .int 0, .int 0, .int 0, .ref gb, .ref go, .ref fa, .ref ga, .int 0, .int 0, .ref vo])), (tp, .inl (G.2.1, 160, .inl (gPf tB 40))), (wo, .inl (G.2.1, 96, .inl (gPf tW 96)))] sz) := by
  refine Met.ofW (cc := cX6_next) (maxL := 3) (ret := none) (by decide) rfl ?_
  intro p e s m args below meth c s₁ B hml hv
  obtain ⟨rfl, hsz, hP, hK, hD0⟩ := hv
  have hx := B.exec
  have hb := B.bytes
  have hr := B.returns
  have hts := atoms_spec (ws := wsX6_next) B.pre
  have hown : s.vm.findClass RX6 = some m.cls := findClass_of_methodNamed B.named
  have hlocks := B.notSynchronized
  subst hsz
  have hD := hD0.self (sz := s.heap.size)
  generalize hAe : va_A [(h0, .inr (6, [.int 0, .ref kd, .ref mo, .ref st, .int 0, .ref ro, .ref tp, .int 40, .ref cd, .ref sr, .int 0, .int 0, .int 0, .ref ir, .ref ih, .ref ss, .ref sq, .ref ce, .ref lw, .int 30, .int 29, .int 59, .int 0, .ref wo, .ref he, .int 0, .int 0, .int 4, .ref sk, .ref na, .ref kp, .int 0, .int 0, .int 0, .int 0, .ref gb, .ref go, .ref fa, .ref ga, .int 0, .int 0, .ref vo])), (tp, .inl (G.2.1, 160, .inl (gPf tB 40))), (wo, .inl (G.2.1, 96, .inl (gPf tW 96)))] s.heap.size = A at hD ⊢
  have hA : ∀ q : Nat, s.heap.size ≤ q → A q := fun q h => by rw [← hAe]; exact Or.inr h
  have hS : va_S A s.heap s.heap [] := va_S.rf
  have hP : va_P G.1 vwCl [(h0, .inr (6, [.int 0, .ref kd, .ref mo, .ref st, .int 0, .ref ro, .ref tp, .int 40, .ref cd, .ref sr, .int 0, .int 0, .int 0, .ref ir, .ref ih, .ref ss, .ref sq, .ref ce, .ref lw, .int 30, .int 29, .int 59, .int 0, .ref wo, .ref he, .int 0, .int 0, .int 4, .ref sk, .ref na, .ref kp, .int 0, .int 0, .int 0, .int 0, .ref gb, .ref go, .ref fa, .ref ga, .int 0, .int 0, .ref vo])), (tp, .inl (G.2.1, 160, .inl (gPf tB 40))), (wo, .inl (G.2.1, 96, .inl (gPf tW 96)))] s.heap := hP
  have hD : va_D A [(h0, .inr (6, [.int 0, .ref kd, .ref mo, .ref st, .int 0, .ref ro, .ref tp, .int 40, .ref cd, .ref sr, .int 0, .int 0, .int 0, .ref ir, .ref ih, .ref ss, .ref sq, .ref ce, .ref lw, .int 30, .int 29, .int 59, .int 0, .ref wo, .ref he, .int 0, .int 0, .int 4, .ref sk, .ref na, .ref kp, .int 0, .int 0, .int 0, .int 0, .ref gb, .ref go, .ref fa, .ref ga, .int 0, .int 0, .ref vo])), (tp, .inl (G.2.1, 160, .inl (gPf tB 40))), (wo, .inl (G.2.1, 96, .inl (gPf tW 96)))] := hD
  have hl := lv_entry ([.ref h0]) (n := 3) (Nat.le_of_ble_eq_true rfl)
  rw [lg_entry_eq]
  generalize (lg_sl ([.ref h0]) ++ List.replicate (3 - (lg_sl ([.ref h0])).length) Slot.unset).toArray = ls at hl ⊢
  have hl : lv_has ls 3 [(0, .ref h0)] := hl
  have kf111 := hts (.fieldLink RX6 111 "PebbleInShoeModel" "at" "I") (by decide +kernel)
  have hiX6 := (by decide +kernel : ∀ w ∈ wsX60, w ∈ wsX6_next)
  have kf80 := hts (.fieldLink RX6 80 "PebbleInShoeModel" "taped" "I") (by decide +kernel)
  have kf22 := hts (.fieldLink RX6 22 "PebbleInShoeModel" "tape" "[I") (by decide +kernel)
  have kf114 := hts (.fieldLink RX6 114 "PebbleInShoeModel" "begun" "I") (by decide +kernel)
  have kf117 := hts (.fieldLink RX6 117 "PebbleInShoeModel" "token" "I") (by decide +kernel)
  have kf120 := hts (.fieldLink RX6 120 "PebbleInShoeModel" "value" "I") (by decide +kernel)
  refine lv_aload_n hx hb dX6_next_0 rfl (lv_at hl 0 rfl) ?_
  refine va_get (D := G.1) (ci := 6) (v := .int 30) (C := RX6) (T := TX6) (N := 42) hx hb hts hiX6 hown hK hP 0 rfl rfl 19 (by decide) kf111 (fun _ h9 => h9) rfl dX6_next_1 ?_
  refine lv_aload_n hx hb dX6_next_4 rfl (lv_at hl 0 rfl) ?_
  refine va_get (D := G.1) (ci := 6) (v := .int 40) (C := RX6) (T := TX6) (N := 42) hx hb hts hiX6 hown hK hP 0 rfl rfl 7 (by decide) kf80 (fun _ h9 => h9) rfl dX6_next_5 ?_
  refine lv_icmp_ge (tgt := 52) hx hb dX6_next_8 (by decide) (fun c_1 => ?_) (fun c_1 => ?_)
  · exact absurd c_1 (by decide)
  refine lv_aload_n hx hb dX6_next_11 rfl (lv_at hl 0 rfl) ?_
  refine va_get (D := G.1) (ci := 6) (v := .ref tp) (C := RX6) (T := TX6) (N := 42) hx hb hts hiX6 hown hK hP 0 rfl rfl 6 (by decide) kf22 (fun _ h9 => h9) rfl dX6_next_12 ?_
  refine lv_aload_n hx hb dX6_next_15 rfl (lv_at hl 0 rfl) ?_
  refine va_get (D := G.1) (ci := 6) (v := .int 30) (C := RX6) (T := TX6) (N := 42) hx hb hts hiX6 hown hK hP 0 rfl rfl 19 (by decide) kf111 (fun _ h9 => h9) rfl dX6_next_16 ?_
  refine va_iald (D := G.1) hx hb hK hP 1 0 rfl rfl (i := 30) (gIn (by decide)) dX6_next_19 ?_
  refine lv_topi (fun v_2 ev_2 => ?_)
  have ev_2 : v_2 = 32 := ev_2.trans (by decide)
  subst ev_2
  refine lv_bipush (v := 32) hx hb dX6_next_20 (by decide) ?_
  refine lv_icmp_eq (tgt := 39) hx hb dX6_next_22 (by decide) (fun c_3 => ?_) (fun c_3 => ?_)
  rotate_left
  · exact absurd (by decide) c_3
  refine lv_aload_n hx hb dX6_next_39 rfl (lv_at hl 0 rfl) ?_
  refine lv_dup hx hb dX6_next_40 rfl ?_
  refine va_get (D := G.1) (ci := 6) (v := .int 30) (C := RX6) (T := TX6) (N := 42) hx hb hts hiX6 hown hK hP 0 rfl rfl 19 (by decide) kf111 (fun _ h9 => h9) rfl dX6_next_41 ?_
  refine lv_iconst (v := 1) hx hb dX6_next_44 (by decide) ?_
  refine lv_iadd hx hb dX6_next_45 ?_
  refine lv_topi (fun v_4 ev_4 => ?_)
  have ev_4 : v_4 = 31 := ev_4.trans (by decide)
  subst ev_4
  refine va_put (D := G.1) (ci := 6) (v := .int 31) (ty := .int) (C := RX6) (T := TX6) (N := 42) hx hb hts hiX6 tyX6 tyX6_ok nmX6 hown hK hP hD hS 0 rfl rfl 19 (by decide) kf111 (fun _ h9 => h9) rfl (by decide +kernel) rfl rfl (Nat.le_of_ble_eq_true rfl) dX6_next_46 (fun H locs hP hD hS => ?_)
  have hP : va_P G.1 vwCl [(h0, .inr (6, [.int 0, .ref kd, .ref mo, .ref st, .int 0, .ref ro, .ref tp, .int 40, .ref cd, .ref sr, .int 0, .int 0, .int 0, .ref ir, .ref ih, .ref ss, .ref sq, .ref ce, .ref lw, .int 31, .int 29, .int 59, .int 0, .ref wo, .ref he, .int 0, .int 0, .int 4, .ref sk, .ref na, .ref kp, .int 0, .int 0, .int 0, .int 0, .ref gb, .ref go, .ref fa, .ref ga, .int 0, .int 0, .ref vo])), (tp, .inl (G.2.1, 160, .inl (gPf tB 40))), (wo, .inl (G.2.1, 96, .inl (gPf tW 96)))] H := hP
  have hD : va_D A [(h0, .inr (6, [.int 0, .ref kd, .ref mo, .ref st, .int 0, .ref ro, .ref tp, .int 40, .ref cd, .ref sr, .int 0, .int 0, .int 0, .ref ir, .ref ih, .ref ss, .ref sq, .ref ce, .ref lw, .int 31, .int 29, .int 59, .int 0, .ref wo, .ref he, .int 0, .int 0, .int 4, .ref sk, .ref na, .ref kp, .int 0, .int 0, .int 0, .int 0, .ref gb, .ref go, .ref fa, .ref ga, .int 0, .int 0, .ref vo])), (tp, .inl (G.2.1, 160, .inl (gPf tB 40))), (wo, .inl (G.2.1, 96, .inl (gPf tW 96)))] := hD
  refine lv_goto (tgt := 0) hx hb dX6_next_49 (by decide) ?_
  refine lv_aload_n hx hb dX6_next_0 rfl (lv_at hl 0 rfl) ?_
  refine va_get (D := G.1) (ci := 6) (v := .int 31) (C := RX6) (T := TX6) (N := 42) hx hb hts hiX6 hown hK hP 0 rfl rfl 19 (by decide) kf111 (fun _ h9 => h9) rfl dX6_next_1 ?_
  refine lv_aload_n hx hb dX6_next_4 rfl (lv_at hl 0 rfl) ?_
  refine va_get (D := G.1) (ci := 6) (v := .int 40) (C := RX6) (T := TX6) (N := 42) hx hb hts hiX6 hown hK hP 0 rfl rfl 7 (by decide) kf80 (fun _ h9 => h9) rfl dX6_next_5 ?_
  refine lv_icmp_ge (tgt := 52) hx hb dX6_next_8 (by decide) (fun c_5 => ?_) (fun c_5 => ?_)
  · exact absurd c_5 (by decide)
  refine lv_aload_n hx hb dX6_next_11 rfl (lv_at hl 0 rfl) ?_
  refine va_get (D := G.1) (ci := 6) (v := .ref tp) (C := RX6) (T := TX6) (N := 42) hx hb hts hiX6 hown hK hP 0 rfl rfl 6 (by decide) kf22 (fun _ h9 => h9) rfl dX6_next_12 ?_
  refine lv_aload_n hx hb dX6_next_15 rfl (lv_at hl 0 rfl) ?_
  refine va_get (D := G.1) (ci := 6) (v := .int 31) (C := RX6) (T := TX6) (N := 42) hx hb hts hiX6 hown hK hP 0 rfl rfl 19 (by decide) kf111 (fun _ h9 => h9) rfl dX6_next_16 ?_
  refine va_iald (D := G.1) hx hb hK hP 1 0 rfl rfl (i := 31) (gIn (by decide)) dX6_next_19 ?_
  refine lv_topi (fun v_6 ev_6 => ?_)
  have ev_6 : v_6 = 98 := ev_6.trans (by decide)
  subst ev_6
  refine lv_bipush (v := 32) hx hb dX6_next_20 (by decide) ?_
  refine lv_icmp_eq (tgt := 39) hx hb dX6_next_22 (by decide) (fun c_7 => ?_) (fun c_7 => ?_)
  · exact absurd c_7 (by decide)
  refine lv_aload_n hx hb dX6_next_25 rfl (lv_at hl 0 rfl) ?_
  refine va_get (D := G.1) (ci := 6) (v := .ref tp) (C := RX6) (T := TX6) (N := 42) hx hb hts hiX6 hown hK hP 0 rfl rfl 6 (by decide) kf22 (fun _ h9 => h9) rfl dX6_next_26 ?_
  refine lv_aload_n hx hb dX6_next_29 rfl (lv_at hl 0 rfl) ?_
  refine va_get (D := G.1) (ci := 6) (v := .int 31) (C := RX6) (T := TX6) (N := 42) hx hb hts hiX6 hown hK hP 0 rfl rfl 19 (by decide) kf111 (fun _ h9 => h9) rfl dX6_next_30 ?_
  refine va_iald (D := G.1) hx hb hK hP 1 0 rfl rfl (i := 31) (gIn (by decide)) dX6_next_33 ?_
  refine lv_topi (fun v_8 ev_8 => ?_)
  have ev_8 : v_8 = 98 := ev_8.trans (by decide)
  subst ev_8
  refine lv_bipush (v := 10) hx hb dX6_next_34 (by decide) ?_
  refine lv_icmp_ne (tgt := 52) hx hb dX6_next_36 (by decide) (fun c_9 => ?_) (fun c_9 => ?_)
  rotate_left
  · exact absurd c_9 (by decide)
  refine lv_aload_n hx hb dX6_next_52 rfl (lv_at hl 0 rfl) ?_
  refine lv_aload_n hx hb dX6_next_53 rfl (lv_at hl 0 rfl) ?_
  refine va_get (D := G.1) (ci := 6) (v := .int 31) (C := RX6) (T := TX6) (N := 42) hx hb hts hiX6 hown hK hP 0 rfl rfl 19 (by decide) kf111 (fun _ h9 => h9) rfl dX6_next_54 ?_
  refine va_put (D := G.1) (ci := 6) (v := .int 31) (ty := .int) (C := RX6) (T := TX6) (N := 42) hx hb hts hiX6 tyX6 tyX6_ok nmX6 hown hK hP hD hS 0 rfl rfl 20 (by decide) kf114 (fun _ h9 => h9) rfl (by decide +kernel) rfl rfl (Nat.le_of_ble_eq_true rfl) dX6_next_57 (fun H locs hP hD hS => ?_)
  have hP : va_P G.1 vwCl [(h0, .inr (6, [.int 0, .ref kd, .ref mo, .ref st, .int 0, .ref ro, .ref tp, .int 40, .ref cd, .ref sr, .int 0, .int 0, .int 0, .ref ir, .ref ih, .ref ss, .ref sq, .ref ce, .ref lw, .int 31, .int 31, .int 59, .int 0, .ref wo, .ref he, .int 0, .int 0, .int 4, .ref sk, .ref na, .ref kp, .int 0, .int 0, .int 0, .int 0, .ref gb, .ref go, .ref fa, .ref ga, .int 0, .int 0, .ref vo])), (tp, .inl (G.2.1, 160, .inl (gPf tB 40))), (wo, .inl (G.2.1, 96, .inl (gPf tW 96)))] H := hP
  have hD : va_D A [(h0, .inr (6, [.int 0, .ref kd, .ref mo, .ref st, .int 0, .ref ro, .ref tp, .int 40, .ref cd, .ref sr, .int 0, .int 0, .int 0, .ref ir, .ref ih, .ref ss, .ref sq, .ref ce, .ref lw, .int 31, .int 31, .int 59, .int 0, .ref wo, .ref he, .int 0, .int 0, .int 4, .ref sk, .ref na, .ref kp, .int 0, .int 0, .int 0, .int 0, .ref gb, .ref go, .ref fa, .ref ga, .int 0, .int 0, .ref vo])), (tp, .inl (G.2.1, 160, .inl (gPf tB 40))), (wo, .inl (G.2.1, 96, .inl (gPf tW 96)))] := hD
  refine lv_aload_n hx hb dX6_next_60 rfl (lv_at hl 0 rfl) ?_
  refine lv_iconst (v := 0) hx hb dX6_next_61 (by decide) ?_
  refine va_put (D := G.1) (ci := 6) (v := .int 0) (ty := .int) (C := RX6) (T := TX6) (N := 42) hx hb hts hiX6 tyX6 tyX6_ok nmX6 hown hK hP hD hS 0 rfl rfl 21 (by decide) kf117 (fun _ h9 => h9) rfl (by decide +kernel) rfl rfl (Nat.le_of_ble_eq_true rfl) dX6_next_62 (fun H locs hP hD hS => ?_)
  have hP : va_P G.1 vwCl [(h0, .inr (6, [.int 0, .ref kd, .ref mo, .ref st, .int 0, .ref ro, .ref tp, .int 40, .ref cd, .ref sr, .int 0, .int 0, .int 0, .ref ir, .ref ih, .ref ss, .ref sq, .ref ce, .ref lw, .int 31, .int 31, .int 0, .int 0, .ref wo, .ref he, .int 0, .int 0, .int 4, .ref sk, .ref na, .ref kp, .int 0, .int 0, .int 0, .int 0, .ref gb, .ref go, .ref fa, .ref ga, .int 0, .int 0, .ref vo])), (tp, .inl (G.2.1, 160, .inl (gPf tB 40))), (wo, .inl (G.2.1, 96, .inl (gPf tW 96)))] H := hP
  have hD : va_D A [(h0, .inr (6, [.int 0, .ref kd, .ref mo, .ref st, .int 0, .ref ro, .ref tp, .int 40, .ref cd, .ref sr, .int 0, .int 0, .int 0, .ref ir, .ref ih, .ref ss, .ref sq, .ref ce, .ref lw, .int 31, .int 31, .int 0, .int 0, .ref wo, .ref he, .int 0, .int 0, .int 4, .ref sk, .ref na, .ref kp, .int 0, .int 0, .int 0, .int 0, .ref gb, .ref go, .ref fa, .ref ga, .int 0, .int 0, .ref vo])), (tp, .inl (G.2.1, 160, .inl (gPf tB 40))), (wo, .inl (G.2.1, 96, .inl (gPf tW 96)))] := hD
  refine lv_aload_n hx hb dX6_next_65 rfl (lv_at hl 0 rfl) ?_
  refine lv_iconst (v := 0) hx hb dX6_next_66 (by decide) ?_
  refine va_put (D := G.1) (ci := 6) (v := .int 0) (ty := .int) (C := RX6) (T := TX6) (N := 42) hx hb hts hiX6 tyX6 tyX6_ok nmX6 hown hK hP hD hS 0 rfl rfl 22 (by decide) kf120 (fun _ h9 => h9) rfl (by decide +kernel) rfl rfl (Nat.le_of_ble_eq_true rfl) dX6_next_67 (fun H locs hP hD hS => ?_)
  have hP : va_P G.1 vwCl [(h0, .inr (6, [.int 0, .ref kd, .ref mo, .ref st, .int 0, .ref ro, .ref tp, .int 40, .ref cd, .ref sr, .int 0, .int 0, .int 0, .ref ir, .ref ih, .ref ss, .ref sq, .ref ce, .ref lw, .int 31, .int 31, .int 0, .int 0, .ref wo, .ref he, .int 0, .int 0, .int 4, .ref sk, .ref na, .ref kp, .int 0, .int 0, .int 0, .int 0, .ref gb, .ref go, .ref fa, .ref ga, .int 0, .int 0, .ref vo])), (tp, .inl (G.2.1, 160, .inl (gPf tB 40))), (wo, .inl (G.2.1, 96, .inl (gPf tW 96)))] H := hP
  have hD : va_D A [(h0, .inr (6, [.int 0, .ref kd, .ref mo, .ref st, .int 0, .ref ro, .ref tp, .int 40, .ref cd, .ref sr, .int 0, .int 0, .int 0, .ref ir, .ref ih, .ref ss, .ref sq, .ref ce, .ref lw, .int 31, .int 31, .int 0, .int 0, .ref wo, .ref he, .int 0, .int 0, .int 4, .ref sk, .ref na, .ref kp, .int 0, .int 0, .int 0, .int 0, .ref gb, .ref go, .ref fa, .ref ga, .int 0, .int 0, .ref vo])), (tp, .inl (G.2.1, 160, .inl (gPf tB 40))), (wo, .inl (G.2.1, 96, .inl (gPf tW 96)))] := hD
  refine lv_aload_n hx hb dX6_next_70 rfl (lv_at hl 0 rfl) ?_
  refine va_get (D := G.1) (ci := 6) (v := .int 31) (C := RX6) (T := TX6) (N := 42) hx hb hts hiX6 hown hK hP 0 rfl rfl 19 (by decide) kf111 (fun _ h9 => h9) rfl dX6_next_71 ?_
  refine lv_aload_n hx hb dX6_next_74 rfl (lv_at hl 0 rfl) ?_
  refine va_get (D := G.1) (ci := 6) (v := .int 40) (C := RX6) (T := TX6) (N := 42) hx hb hts hiX6 hown hK hP 0 rfl rfl 7 (by decide) kf80 (fun _ h9 => h9) rfl dX6_next_75 ?_
  refine lv_icmp_ne (tgt := 82) hx hb dX6_next_78 (by decide) (fun c_10 => ?_) (fun c_10 => ?_)
  rotate_left
  · exact absurd c_10 (by decide)
  refine lv_aload_n hx hb dX6_next_82 rfl (lv_at hl 0 rfl) ?_
  refine va_get (D := G.1) (ci := 6) (v := .ref tp) (C := RX6) (T := TX6) (N := 42) hx hb hts hiX6 hown hK hP 0 rfl rfl 6 (by decide) kf22 (fun _ h9 => h9) rfl dX6_next_83 ?_
  refine lv_aload_n hx hb dX6_next_86 rfl (lv_at hl 0 rfl) ?_
  refine va_get (D := G.1) (ci := 6) (v := .int 31) (C := RX6) (T := TX6) (N := 42) hx hb hts hiX6 hown hK hP 0 rfl rfl 19 (by decide) kf111 (fun _ h9 => h9) rfl dX6_next_87 ?_
  refine va_iald (D := G.1) hx hb hK hP 1 0 rfl rfl (i := 31) (gIn (by decide)) dX6_next_90 ?_
  refine lv_topi (fun v_11 ev_11 => ?_)
  have ev_11 : v_11 = 98 := ev_11.trans (by decide)
  subst ev_11
  refine lv_istore_n (lv' := [(1, .int 98), (0, .ref h0)]) hx hb dX6_next_91 rfl hl (by decide) rfl (fun ls hl => ?_)
  refine lv_iload_n hx hb dX6_next_92 rfl (lv_at hl 0 rfl) ?_
  refine lv_bipush (v := 97) hx hb dX6_next_93 (by decide) ?_
  refine lv_bipush (v := 122) hx hb dX6_next_95 (by decide) ?_
  have hPc : va_P G.1 vwCl [] H := hP.sub [] rfl
  have hDc : va_D A [] := hD.sub [] (by decide) rfl
  have hFc := va_free (wc := []) hD hS hA [] rfl
  refine va_calli (va_runS (As := [.int 98, .int 97, .int 122]) (rest := []) ⟨hx, hb, hml, hown, hts⟩ (c_X6_in_z51 l G H.size) (va_cwS 3 hts gX6_next_X6_in rfl rfl rfl (by decide +kernel) ⟨Nat.le_of_ble_eq_true rfl, Nat.le_of_ble_eq_true rfl⟩) ⟨gPre_blind, fun U hU hW => gPre_of hU hW hK hPc hDc⟩ rfl rfl hl.1 rfl (lv_room (Nat.le_of_ble_eq_true rfl)) dX6_next_97 ⟨Nat.le_of_ble_eq_true rfl, Nat.le_of_ble_eq_true rfl⟩) hS (fun q _ h => hFc q h) hFc (fun r_12 u t H locs ht hvm w_13 hB hz1 hk1 hS => ?_)
  obtain ⟨hP1, hK1, hD1⟩ := hB
  rw [ht] at hP1
  have hP1 : va_P G.1 vwCl [] H := hP1
  have hD1 : va_D (va_A [] _) [] := hD1
  have w_13 : r_12 = 1 := w_13
  obtain ⟨hP, hD⟩ := va_join (wr := [(h0, .inr (6, [.int 0, .ref kd, .ref mo, .ref st, .int 0, .ref ro, .ref tp, .int 40, .ref cd, .ref sr, .int 0, .int 0, .int 0, .ref ir, .ref ih, .ref ss, .ref sq, .ref ce, .ref lw, .int 31, .int 31, .int 0, .int 0, .ref wo, .ref he, .int 0, .int 0, .int 4, .ref sk, .ref na, .ref kp, .int 0, .int 0, .int 0, .int 0, .ref gb, .ref go, .ref fa, .ref ga, .int 0, .int 0, .ref vo])), (tp, .inl (G.2.1, 160, .inl (gPf tB 40))), (wo, .inl (G.2.1, 96, .inl (gPf tW 96)))]) (w1 := []) hP hD [] [0, 1, 2] rfl rfl (by decide) (by decide) hk1 hFc hP1 hD1
  have hP : va_P G.1 vwCl [(h0, .inr (6, [.int 0, .ref kd, .ref mo, .ref st, .int 0, .ref ro, .ref tp, .int 40, .ref cd, .ref sr, .int 0, .int 0, .int 0, .ref ir, .ref ih, .ref ss, .ref sq, .ref ce, .ref lw, .int 31, .int 31, .int 0, .int 0, .ref wo, .ref he, .int 0, .int 0, .int 4, .ref sk, .ref na, .ref kp, .int 0, .int 0, .int 0, .int 0, .ref gb, .ref go, .ref fa, .ref ga, .int 0, .int 0, .ref vo])), (tp, .inl (G.2.1, 160, .inl (gPf tB 40))), (wo, .inl (G.2.1, 96, .inl (gPf tW 96)))] H := hP
  have hD : va_D A [(h0, .inr (6, [.int 0, .ref kd, .ref mo, .ref st, .int 0, .ref ro, .ref tp, .int 40, .ref cd, .ref sr, .int 0, .int 0, .int 0, .ref ir, .ref ih, .ref ss, .ref sq, .ref ce, .ref lw, .int 31, .int 31, .int 0, .int 0, .ref wo, .ref he, .int 0, .int 0, .int 4, .ref sk, .ref na, .ref kp, .int 0, .int 0, .int 0, .int 0, .ref gb, .ref go, .ref fa, .ref ga, .int 0, .int 0, .ref vo])), (tp, .inl (G.2.1, 160, .inl (gPf tB 40))), (wo, .inl (G.2.1, 96, .inl (gPf tW 96)))] := hD
  have w_13 : r_12 = 1 := w_13
  subst w_13
  refine lv_if_eq (tgt := 217) hx hb dX6_next_100 (by decide) (fun c_14 => ?_) (fun c_14 => ?_)
  · exact absurd c_14 (by decide)
  refine lv_aload_n hx hb dX6_next_103 rfl (lv_at hl 1 rfl) ?_
  refine va_get (D := G.1) (ci := 6) (v := .int 31) (C := RX6) (T := TX6) (N := 42) hx hb hts hiX6 hown hK hP 0 rfl rfl 19 (by decide) kf111 (fun _ h9 => h9) rfl dX6_next_104 ?_
  refine lv_aload_n hx hb dX6_next_107 rfl (lv_at hl 1 rfl) ?_
  refine va_get (D := G.1) (ci := 6) (v := .int 40) (C := RX6) (T := TX6) (N := 42) hx hb hts hiX6 hown hK hP 0 rfl rfl 7 (by decide) kf80 (fun _ h9 => h9) rfl dX6_next_108 ?_
  refine lv_icmp_ge (tgt := 146) hx hb dX6_next_111 (by decide) (fun c_15 => ?_) (fun c_15 => ?_)
  · exact absurd c_15 (by decide)
  refine lv_aload_n hx hb dX6_next_114 rfl (lv_at hl 1 rfl) ?_
  refine va_get (D := G.1) (ci := 6) (v := .ref tp) (C := RX6) (T := TX6) (N := 42) hx hb hts hiX6 hown hK hP 0 rfl rfl 6 (by decide) kf22 (fun _ h9 => h9) rfl dX6_next_115 ?_
  refine lv_aload_n hx hb dX6_next_118 rfl (lv_at hl 1 rfl) ?_
  refine va_get (D := G.1) (ci := 6) (v := .int 31) (C := RX6) (T := TX6) (N := 42) hx hb hts hiX6 hown hK hP 0 rfl rfl 19 (by decide) kf111 (fun _ h9 => h9) rfl dX6_next_119 ?_
  refine va_iald (D := G.1) hx hb hK hP 1 0 rfl rfl (i := 31) (gIn (by decide)) dX6_next_122 ?_
  refine lv_topi (fun v_16 ev_16 => ?_)
  have ev_16 : v_16 = 98 := ev_16.trans (by decide)
  subst ev_16
  refine lv_bipush (v := 97) hx hb dX6_next_123 (by decide) ?_
  refine lv_bipush (v := 122) hx hb dX6_next_125 (by decide) ?_
  have hPc : va_P G.1 vwCl [] H := hP.sub [] rfl
  have hDc : va_D A [] := hD.sub [] (by decide) rfl
  have hFc := va_free (wc := []) hD hS hA [] rfl
  refine va_calli (va_runS (As := [.int 98, .int 97, .int 122]) (rest := []) ⟨hx, hb, hml, hown, hts⟩ (c_X6_in_z51 l G H.size) (va_cwS 3 hts gX6_next_X6_in rfl rfl rfl (by decide +kernel) ⟨Nat.le_of_ble_eq_true rfl, Nat.le_of_ble_eq_true rfl⟩) ⟨gPre_blind, fun U hU hW => gPre_of hU hW hK hPc hDc⟩ rfl rfl hl.1 rfl (lv_room (Nat.le_of_ble_eq_true rfl)) dX6_next_127 ⟨Nat.le_of_ble_eq_true rfl, Nat.le_of_ble_eq_true rfl⟩) hS (fun q _ h => hFc q h) hFc (fun r_17 u t H locs ht hvm w_18 hB hz1 hk1 hS => ?_)
  obtain ⟨hP1, hK1, hD1⟩ := hB
  rw [ht] at hP1
  have hP1 : va_P G.1 vwCl [] H := hP1
  have hD1 : va_D (va_A [] _) [] := hD1
  have w_18 : r_17 = 1 := w_18
  obtain ⟨hP, hD⟩ := va_join (wr := [(h0, .inr (6, [.int 0, .ref kd, .ref mo, .ref st, .int 0, .ref ro, .ref tp, .int 40, .ref cd, .ref sr, .int 0, .int 0, .int 0, .ref ir, .ref ih, .ref ss, .ref sq, .ref ce, .ref lw, .int 31, .int 31, .int 0, .int 0, .ref wo, .ref he, .int 0, .int 0, .int 4, .ref sk, .ref na, .ref kp, .int 0, .int 0, .int 0, .int 0, .ref gb, .ref go, .ref fa, .ref ga, .int 0, .int 0, .ref vo])), (tp, .inl (G.2.1, 160, .inl (gPf tB 40))), (wo, .inl (G.2.1, 96, .inl (gPf tW 96)))]) (w1 := []) hP hD [] [0, 1, 2] rfl rfl (by decide) (by decide) hk1 hFc hP1 hD1
  have hP : va_P G.1 vwCl [(h0, .inr (6, [.int 0, .ref kd, .ref mo, .ref st, .int 0, .ref ro, .ref tp, .int 40, .ref cd, .ref sr, .int 0, .int 0, .int 0, .ref ir, .ref ih, .ref ss, .ref sq, .ref ce, .ref lw, .int 31, .int 31, .int 0, .int 0, .ref wo, .ref he, .int 0, .int 0, .int 4, .ref sk, .ref na, .ref kp, .int 0, .int 0, .int 0, .int 0, .ref gb, .ref go, .ref fa, .ref ga, .int 0, .int 0, .ref vo])), (tp, .inl (G.2.1, 160, .inl (gPf tB 40))), (wo, .inl (G.2.1, 96, .inl (gPf tW 96)))] H := hP
  have hD : va_D A [(h0, .inr (6, [.int 0, .ref kd, .ref mo, .ref st, .int 0, .ref ro, .ref tp, .int 40, .ref cd, .ref sr, .int 0, .int 0, .int 0, .ref ir, .ref ih, .ref ss, .ref sq, .ref ce, .ref lw, .int 31, .int 31, .int 0, .int 0, .ref wo, .ref he, .int 0, .int 0, .int 4, .ref sk, .ref na, .ref kp, .int 0, .int 0, .int 0, .int 0, .ref gb, .ref go, .ref fa, .ref ga, .int 0, .int 0, .ref vo])), (tp, .inl (G.2.1, 160, .inl (gPf tB 40))), (wo, .inl (G.2.1, 96, .inl (gPf tW 96)))] := hD
  have w_18 : r_17 = 1 := w_18
  subst w_18
  refine lv_if_eq (tgt := 146) hx hb dX6_next_130 (by decide) (fun c_19 => ?_) (fun c_19 => ?_)
  · exact absurd c_19 (by decide)
  refine lv_aload_n hx hb dX6_next_133 rfl (lv_at hl 1 rfl) ?_
  refine lv_dup hx hb dX6_next_134 rfl ?_
  refine va_get (D := G.1) (ci := 6) (v := .int 31) (C := RX6) (T := TX6) (N := 42) hx hb hts hiX6 hown hK hP 0 rfl rfl 19 (by decide) kf111 (fun _ h9 => h9) rfl dX6_next_135 ?_
  refine lv_iconst (v := 1) hx hb dX6_next_138 (by decide) ?_
  refine lv_iadd hx hb dX6_next_139 ?_
  refine lv_topi (fun v_20 ev_20 => ?_)
  have ev_20 : v_20 = 32 := ev_20.trans (by decide)
  subst ev_20
  refine va_put (D := G.1) (ci := 6) (v := .int 32) (ty := .int) (C := RX6) (T := TX6) (N := 42) hx hb hts hiX6 tyX6 tyX6_ok nmX6 hown hK hP hD hS 0 rfl rfl 19 (by decide) kf111 (fun _ h9 => h9) rfl (by decide +kernel) rfl rfl (Nat.le_of_ble_eq_true rfl) dX6_next_140 (fun H locs hP hD hS => ?_)
  have hP : va_P G.1 vwCl [(h0, .inr (6, [.int 0, .ref kd, .ref mo, .ref st, .int 0, .ref ro, .ref tp, .int 40, .ref cd, .ref sr, .int 0, .int 0, .int 0, .ref ir, .ref ih, .ref ss, .ref sq, .ref ce, .ref lw, .int 32, .int 31, .int 0, .int 0, .ref wo, .ref he, .int 0, .int 0, .int 4, .ref sk, .ref na, .ref kp, .int 0, .int 0, .int 0, .int 0, .ref gb, .ref go, .ref fa, .ref ga, .int 0, .int 0, .ref vo])), (tp, .inl (G.2.1, 160, .inl (gPf tB 40))), (wo, .inl (G.2.1, 96, .inl (gPf tW 96)))] H := hP
  have hD : va_D A [(h0, .inr (6, [.int 0, .ref kd, .ref mo, .ref st, .int 0, .ref ro, .ref tp, .int 40, .ref cd, .ref sr, .int 0, .int 0, .int 0, .ref ir, .ref ih, .ref ss, .ref sq, .ref ce, .ref lw, .int 32, .int 31, .int 0, .int 0, .ref wo, .ref he, .int 0, .int 0, .int 4, .ref sk, .ref na, .ref kp, .int 0, .int 0, .int 0, .int 0, .ref gb, .ref go, .ref fa, .ref ga, .int 0, .int 0, .ref vo])), (tp, .inl (G.2.1, 160, .inl (gPf tB 40))), (wo, .inl (G.2.1, 96, .inl (gPf tW 96)))] := hD
  refine lv_goto (tgt := 103) hx hb dX6_next_143 (by decide) ?_
  refine lv_aload_n hx hb dX6_next_103 rfl (lv_at hl 1 rfl) ?_
  refine va_get (D := G.1) (ci := 6) (v := .int 32) (C := RX6) (T := TX6) (N := 42) hx hb hts hiX6 hown hK hP 0 rfl rfl 19 (by decide) kf111 (fun _ h9 => h9) rfl dX6_next_104 ?_
  refine lv_aload_n hx hb dX6_next_107 rfl (lv_at hl 1 rfl) ?_
  refine va_get (D := G.1) (ci := 6) (v := .int 40) (C := RX6) (T := TX6) (N := 42) hx hb hts hiX6 hown hK hP 0 rfl rfl 7 (by decide) kf80 (fun _ h9 => h9) rfl dX6_next_108 ?_
  refine lv_icmp_ge (tgt := 146) hx hb dX6_next_111 (by decide) (fun c_21 => ?_) (fun c_21 => ?_)
  · exact absurd c_21 (by decide)
  refine lv_aload_n hx hb dX6_next_114 rfl (lv_at hl 1 rfl) ?_
  refine va_get (D := G.1) (ci := 6) (v := .ref tp) (C := RX6) (T := TX6) (N := 42) hx hb hts hiX6 hown hK hP 0 rfl rfl 6 (by decide) kf22 (fun _ h9 => h9) rfl dX6_next_115 ?_
  refine lv_aload_n hx hb dX6_next_118 rfl (lv_at hl 1 rfl) ?_
  refine va_get (D := G.1) (ci := 6) (v := .int 32) (C := RX6) (T := TX6) (N := 42) hx hb hts hiX6 hown hK hP 0 rfl rfl 19 (by decide) kf111 (fun _ h9 => h9) rfl dX6_next_119 ?_
  refine va_iald (D := G.1) hx hb hK hP 1 0 rfl rfl (i := 32) (gIn (by decide)) dX6_next_122 ?_
  refine lv_topi (fun v_22 ev_22 => ?_)
  have ev_22 : v_22 = 97 := ev_22.trans (by decide)
  subst ev_22
  refine lv_bipush (v := 97) hx hb dX6_next_123 (by decide) ?_
  refine lv_bipush (v := 122) hx hb dX6_next_125 (by decide) ?_
  have hPc : va_P G.1 vwCl [] H := hP.sub [] rfl
  have hDc : va_D A [] := hD.sub [] (by decide) rfl
  have hFc := va_free (wc := []) hD hS hA [] rfl
  refine va_calli (va_runS (As := [.int 97, .int 97, .int 122]) (rest := []) ⟨hx, hb, hml, hown, hts⟩ (c_X6_in_z39 l G H.size) (va_cwS 3 hts gX6_next_X6_in rfl rfl rfl (by decide +kernel) ⟨Nat.le_of_ble_eq_true rfl, Nat.le_of_ble_eq_true rfl⟩) ⟨gPre_blind, fun U hU hW => gPre_of hU hW hK hPc hDc⟩ rfl rfl hl.1 rfl (lv_room (Nat.le_of_ble_eq_true rfl)) dX6_next_127 ⟨Nat.le_of_ble_eq_true rfl, Nat.le_of_ble_eq_true rfl⟩) hS (fun q _ h => hFc q h) hFc (fun r_23 u t H locs ht hvm w_24 hB hz1 hk1 hS => ?_)
  obtain ⟨hP1, hK1, hD1⟩ := hB
  rw [ht] at hP1
  have hP1 : va_P G.1 vwCl [] H := hP1
  have hD1 : va_D (va_A [] _) [] := hD1
  have w_24 : r_23 = 1 := w_24
  obtain ⟨hP, hD⟩ := va_join (wr := [(h0, .inr (6, [.int 0, .ref kd, .ref mo, .ref st, .int 0, .ref ro, .ref tp, .int 40, .ref cd, .ref sr, .int 0, .int 0, .int 0, .ref ir, .ref ih, .ref ss, .ref sq, .ref ce, .ref lw, .int 32, .int 31, .int 0, .int 0, .ref wo, .ref he, .int 0, .int 0, .int 4, .ref sk, .ref na, .ref kp, .int 0, .int 0, .int 0, .int 0, .ref gb, .ref go, .ref fa, .ref ga, .int 0, .int 0, .ref vo])), (tp, .inl (G.2.1, 160, .inl (gPf tB 40))), (wo, .inl (G.2.1, 96, .inl (gPf tW 96)))]) (w1 := []) hP hD [] [0, 1, 2] rfl rfl (by decide) (by decide) hk1 hFc hP1 hD1
  have hP : va_P G.1 vwCl [(h0, .inr (6, [.int 0, .ref kd, .ref mo, .ref st, .int 0, .ref ro, .ref tp, .int 40, .ref cd, .ref sr, .int 0, .int 0, .int 0, .ref ir, .ref ih, .ref ss, .ref sq, .ref ce, .ref lw, .int 32, .int 31, .int 0, .int 0, .ref wo, .ref he, .int 0, .int 0, .int 4, .ref sk, .ref na, .ref kp, .int 0, .int 0, .int 0, .int 0, .ref gb, .ref go, .ref fa, .ref ga, .int 0, .int 0, .ref vo])), (tp, .inl (G.2.1, 160, .inl (gPf tB 40))), (wo, .inl (G.2.1, 96, .inl (gPf tW 96)))] H := hP
  have hD : va_D A [(h0, .inr (6, [.int 0, .ref kd, .ref mo, .ref st, .int 0, .ref ro, .ref tp, .int 40, .ref cd, .ref sr, .int 0, .int 0, .int 0, .ref ir, .ref ih, .ref ss, .ref sq, .ref ce, .ref lw, .int 32, .int 31, .int 0, .int 0, .ref wo, .ref he, .int 0, .int 0, .int 4, .ref sk, .ref na, .ref kp, .int 0, .int 0, .int 0, .int 0, .ref gb, .ref go, .ref fa, .ref ga, .int 0, .int 0, .ref vo])), (tp, .inl (G.2.1, 160, .inl (gPf tB 40))), (wo, .inl (G.2.1, 96, .inl (gPf tW 96)))] := hD
  have w_24 : r_23 = 1 := w_24
  subst w_24
  refine lv_if_eq (tgt := 146) hx hb dX6_next_130 (by decide) (fun c_25 => ?_) (fun c_25 => ?_)
  · exact absurd c_25 (by decide)
  refine lv_aload_n hx hb dX6_next_133 rfl (lv_at hl 1 rfl) ?_
  refine lv_dup hx hb dX6_next_134 rfl ?_
  refine va_get (D := G.1) (ci := 6) (v := .int 32) (C := RX6) (T := TX6) (N := 42) hx hb hts hiX6 hown hK hP 0 rfl rfl 19 (by decide) kf111 (fun _ h9 => h9) rfl dX6_next_135 ?_
  refine lv_iconst (v := 1) hx hb dX6_next_138 (by decide) ?_
  refine lv_iadd hx hb dX6_next_139 ?_
  refine lv_topi (fun v_26 ev_26 => ?_)
  have ev_26 : v_26 = 33 := ev_26.trans (by decide)
  subst ev_26
  refine va_put (D := G.1) (ci := 6) (v := .int 33) (ty := .int) (C := RX6) (T := TX6) (N := 42) hx hb hts hiX6 tyX6 tyX6_ok nmX6 hown hK hP hD hS 0 rfl rfl 19 (by decide) kf111 (fun _ h9 => h9) rfl (by decide +kernel) rfl rfl (Nat.le_of_ble_eq_true rfl) dX6_next_140 (fun H locs hP hD hS => ?_)
  have hP : va_P G.1 vwCl [(h0, .inr (6, [.int 0, .ref kd, .ref mo, .ref st, .int 0, .ref ro, .ref tp, .int 40, .ref cd, .ref sr, .int 0, .int 0, .int 0, .ref ir, .ref ih, .ref ss, .ref sq, .ref ce, .ref lw, .int 33, .int 31, .int 0, .int 0, .ref wo, .ref he, .int 0, .int 0, .int 4, .ref sk, .ref na, .ref kp, .int 0, .int 0, .int 0, .int 0, .ref gb, .ref go, .ref fa, .ref ga, .int 0, .int 0, .ref vo])), (tp, .inl (G.2.1, 160, .inl (gPf tB 40))), (wo, .inl (G.2.1, 96, .inl (gPf tW 96)))] H := hP
  have hD : va_D A [(h0, .inr (6, [.int 0, .ref kd, .ref mo, .ref st, .int 0, .ref ro, .ref tp, .int 40, .ref cd, .ref sr, .int 0, .int 0, .int 0, .ref ir, .ref ih, .ref ss, .ref sq, .ref ce, .ref lw, .int 33, .int 31, .int 0, .int 0, .ref wo, .ref he, .int 0, .int 0, .int 4, .ref sk, .ref na, .ref kp, .int 0, .int 0, .int 0, .int 0, .ref gb, .ref go, .ref fa, .ref ga, .int 0, .int 0, .ref vo])), (tp, .inl (G.2.1, 160, .inl (gPf tB 40))), (wo, .inl (G.2.1, 96, .inl (gPf tW 96)))] := hD
  refine lv_goto (tgt := 103) hx hb dX6_next_143 (by decide) ?_
  refine lv_aload_n hx hb dX6_next_103 rfl (lv_at hl 1 rfl) ?_
  refine va_get (D := G.1) (ci := 6) (v := .int 33) (C := RX6) (T := TX6) (N := 42) hx hb hts hiX6 hown hK hP 0 rfl rfl 19 (by decide) kf111 (fun _ h9 => h9) rfl dX6_next_104 ?_
  refine lv_aload_n hx hb dX6_next_107 rfl (lv_at hl 1 rfl) ?_
  refine va_get (D := G.1) (ci := 6) (v := .int 40) (C := RX6) (T := TX6) (N := 42) hx hb hts hiX6 hown hK hP 0 rfl rfl 7 (by decide) kf80 (fun _ h9 => h9) rfl dX6_next_108 ?_
  refine lv_icmp_ge (tgt := 146) hx hb dX6_next_111 (by decide) (fun c_27 => ?_) (fun c_27 => ?_)
  · exact absurd c_27 (by decide)
  refine lv_aload_n hx hb dX6_next_114 rfl (lv_at hl 1 rfl) ?_
  refine va_get (D := G.1) (ci := 6) (v := .ref tp) (C := RX6) (T := TX6) (N := 42) hx hb hts hiX6 hown hK hP 0 rfl rfl 6 (by decide) kf22 (fun _ h9 => h9) rfl dX6_next_115 ?_
  refine lv_aload_n hx hb dX6_next_118 rfl (lv_at hl 1 rfl) ?_
  refine va_get (D := G.1) (ci := 6) (v := .int 33) (C := RX6) (T := TX6) (N := 42) hx hb hts hiX6 hown hK hP 0 rfl rfl 19 (by decide) kf111 (fun _ h9 => h9) rfl dX6_next_119 ?_
  refine va_iald (D := G.1) hx hb hK hP 1 0 rfl rfl (i := 33) (gIn (by decide)) dX6_next_122 ?_
  refine lv_topi (fun v_28 ev_28 => ?_)
  have ev_28 : v_28 = 114 := ev_28.trans (by decide)
  subst ev_28
  refine lv_bipush (v := 97) hx hb dX6_next_123 (by decide) ?_
  refine lv_bipush (v := 122) hx hb dX6_next_125 (by decide) ?_
  have hPc : va_P G.1 vwCl [] H := hP.sub [] rfl
  have hDc : va_D A [] := hD.sub [] (by decide) rfl
  have hFc := va_free (wc := []) hD hS hA [] rfl
  refine va_calli (va_runS (As := [.int 114, .int 97, .int 122]) (rest := []) ⟨hx, hb, hml, hown, hts⟩ (c_X6_in_z24 l G H.size) (va_cwS 3 hts gX6_next_X6_in rfl rfl rfl (by decide +kernel) ⟨Nat.le_of_ble_eq_true rfl, Nat.le_of_ble_eq_true rfl⟩) ⟨gPre_blind, fun U hU hW => gPre_of hU hW hK hPc hDc⟩ rfl rfl hl.1 rfl (lv_room (Nat.le_of_ble_eq_true rfl)) dX6_next_127 ⟨Nat.le_of_ble_eq_true rfl, Nat.le_of_ble_eq_true rfl⟩) hS (fun q _ h => hFc q h) hFc (fun r_29 u t H locs ht hvm w_30 hB hz1 hk1 hS => ?_)
  obtain ⟨hP1, hK1, hD1⟩ := hB
  rw [ht] at hP1
  have hP1 : va_P G.1 vwCl [] H := hP1
  have hD1 : va_D (va_A [] _) [] := hD1
  have w_30 : r_29 = 1 := w_30
  obtain ⟨hP, hD⟩ := va_join (wr := [(h0, .inr (6, [.int 0, .ref kd, .ref mo, .ref st, .int 0, .ref ro, .ref tp, .int 40, .ref cd, .ref sr, .int 0, .int 0, .int 0, .ref ir, .ref ih, .ref ss, .ref sq, .ref ce, .ref lw, .int 33, .int 31, .int 0, .int 0, .ref wo, .ref he, .int 0, .int 0, .int 4, .ref sk, .ref na, .ref kp, .int 0, .int 0, .int 0, .int 0, .ref gb, .ref go, .ref fa, .ref ga, .int 0, .int 0, .ref vo])), (tp, .inl (G.2.1, 160, .inl (gPf tB 40))), (wo, .inl (G.2.1, 96, .inl (gPf tW 96)))]) (w1 := []) hP hD [] [0, 1, 2] rfl rfl (by decide) (by decide) hk1 hFc hP1 hD1
  have hP : va_P G.1 vwCl [(h0, .inr (6, [.int 0, .ref kd, .ref mo, .ref st, .int 0, .ref ro, .ref tp, .int 40, .ref cd, .ref sr, .int 0, .int 0, .int 0, .ref ir, .ref ih, .ref ss, .ref sq, .ref ce, .ref lw, .int 33, .int 31, .int 0, .int 0, .ref wo, .ref he, .int 0, .int 0, .int 4, .ref sk, .ref na, .ref kp, .int 0, .int 0, .int 0, .int 0, .ref gb, .ref go, .ref fa, .ref ga, .int 0, .int 0, .ref vo])), (tp, .inl (G.2.1, 160, .inl (gPf tB 40))), (wo, .inl (G.2.1, 96, .inl (gPf tW 96)))] H := hP
  have hD : va_D A [(h0, .inr (6, [.int 0, .ref kd, .ref mo, .ref st, .int 0, .ref ro, .ref tp, .int 40, .ref cd, .ref sr, .int 0, .int 0, .int 0, .ref ir, .ref ih, .ref ss, .ref sq, .ref ce, .ref lw, .int 33, .int 31, .int 0, .int 0, .ref wo, .ref he, .int 0, .int 0, .int 4, .ref sk, .ref na, .ref kp, .int 0, .int 0, .int 0, .int 0, .ref gb, .ref go, .ref fa, .ref ga, .int 0, .int 0, .ref vo])), (tp, .inl (G.2.1, 160, .inl (gPf tB 40))), (wo, .inl (G.2.1, 96, .inl (gPf tW 96)))] := hD
  have w_30 : r_29 = 1 := w_30
  subst w_30
  refine lv_if_eq (tgt := 146) hx hb dX6_next_130 (by decide) (fun c_31 => ?_) (fun c_31 => ?_)
  · exact absurd c_31 (by decide)
  refine lv_aload_n hx hb dX6_next_133 rfl (lv_at hl 1 rfl) ?_
  refine lv_dup hx hb dX6_next_134 rfl ?_
  refine va_get (D := G.1) (ci := 6) (v := .int 33) (C := RX6) (T := TX6) (N := 42) hx hb hts hiX6 hown hK hP 0 rfl rfl 19 (by decide) kf111 (fun _ h9 => h9) rfl dX6_next_135 ?_
  refine lv_iconst (v := 1) hx hb dX6_next_138 (by decide) ?_
  refine lv_iadd hx hb dX6_next_139 ?_
  refine lv_topi (fun v_32 ev_32 => ?_)
  have ev_32 : v_32 = 34 := ev_32.trans (by decide)
  subst ev_32
  refine va_put (D := G.1) (ci := 6) (v := .int 34) (ty := .int) (C := RX6) (T := TX6) (N := 42) hx hb hts hiX6 tyX6 tyX6_ok nmX6 hown hK hP hD hS 0 rfl rfl 19 (by decide) kf111 (fun _ h9 => h9) rfl (by decide +kernel) rfl rfl (Nat.le_of_ble_eq_true rfl) dX6_next_140 (fun H locs hP hD hS => ?_)
  have hP : va_P G.1 vwCl [(h0, .inr (6, [.int 0, .ref kd, .ref mo, .ref st, .int 0, .ref ro, .ref tp, .int 40, .ref cd, .ref sr, .int 0, .int 0, .int 0, .ref ir, .ref ih, .ref ss, .ref sq, .ref ce, .ref lw, .int 34, .int 31, .int 0, .int 0, .ref wo, .ref he, .int 0, .int 0, .int 4, .ref sk, .ref na, .ref kp, .int 0, .int 0, .int 0, .int 0, .ref gb, .ref go, .ref fa, .ref ga, .int 0, .int 0, .ref vo])), (tp, .inl (G.2.1, 160, .inl (gPf tB 40))), (wo, .inl (G.2.1, 96, .inl (gPf tW 96)))] H := hP
  have hD : va_D A [(h0, .inr (6, [.int 0, .ref kd, .ref mo, .ref st, .int 0, .ref ro, .ref tp, .int 40, .ref cd, .ref sr, .int 0, .int 0, .int 0, .ref ir, .ref ih, .ref ss, .ref sq, .ref ce, .ref lw, .int 34, .int 31, .int 0, .int 0, .ref wo, .ref he, .int 0, .int 0, .int 4, .ref sk, .ref na, .ref kp, .int 0, .int 0, .int 0, .int 0, .ref gb, .ref go, .ref fa, .ref ga, .int 0, .int 0, .ref vo])), (tp, .inl (G.2.1, 160, .inl (gPf tB 40))), (wo, .inl (G.2.1, 96, .inl (gPf tW 96)))] := hD
  refine lv_goto (tgt := 103) hx hb dX6_next_143 (by decide) ?_
  refine lv_aload_n hx hb dX6_next_103 rfl (lv_at hl 1 rfl) ?_
  refine va_get (D := G.1) (ci := 6) (v := .int 34) (C := RX6) (T := TX6) (N := 42) hx hb hts hiX6 hown hK hP 0 rfl rfl 19 (by decide) kf111 (fun _ h9 => h9) rfl dX6_next_104 ?_
  refine lv_aload_n hx hb dX6_next_107 rfl (lv_at hl 1 rfl) ?_
  refine va_get (D := G.1) (ci := 6) (v := .int 40) (C := RX6) (T := TX6) (N := 42) hx hb hts hiX6 hown hK hP 0 rfl rfl 7 (by decide) kf80 (fun _ h9 => h9) rfl dX6_next_108 ?_
  refine lv_icmp_ge (tgt := 146) hx hb dX6_next_111 (by decide) (fun c_33 => ?_) (fun c_33 => ?_)
  · exact absurd c_33 (by decide)
  refine lv_aload_n hx hb dX6_next_114 rfl (lv_at hl 1 rfl) ?_
  refine va_get (D := G.1) (ci := 6) (v := .ref tp) (C := RX6) (T := TX6) (N := 42) hx hb hts hiX6 hown hK hP 0 rfl rfl 6 (by decide) kf22 (fun _ h9 => h9) rfl dX6_next_115 ?_
  refine lv_aload_n hx hb dX6_next_118 rfl (lv_at hl 1 rfl) ?_
  refine va_get (D := G.1) (ci := 6) (v := .int 34) (C := RX6) (T := TX6) (N := 42) hx hb hts hiX6 hown hK hP 0 rfl rfl 19 (by decide) kf111 (fun _ h9 => h9) rfl dX6_next_119 ?_
  refine va_iald (D := G.1) hx hb hK hP 1 0 rfl rfl (i := 34) (gIn (by decide)) dX6_next_122 ?_
  refine lv_topi (fun v_34 ev_34 => ?_)
  have ev_34 : v_34 = 115 := ev_34.trans (by decide)
  subst ev_34
  refine lv_bipush (v := 97) hx hb dX6_next_123 (by decide) ?_
  refine lv_bipush (v := 122) hx hb dX6_next_125 (by decide) ?_
  have hPc : va_P G.1 vwCl [] H := hP.sub [] rfl
  have hDc : va_D A [] := hD.sub [] (by decide) rfl
  have hFc := va_free (wc := []) hD hS hA [] rfl
  refine va_calli (va_runS (As := [.int 115, .int 97, .int 122]) (rest := []) ⟨hx, hb, hml, hown, hts⟩ (c_X6_in_z5 l G H.size) (va_cwS 3 hts gX6_next_X6_in rfl rfl rfl (by decide +kernel) ⟨Nat.le_of_ble_eq_true rfl, Nat.le_of_ble_eq_true rfl⟩) ⟨gPre_blind, fun U hU hW => gPre_of hU hW hK hPc hDc⟩ rfl rfl hl.1 rfl (lv_room (Nat.le_of_ble_eq_true rfl)) dX6_next_127 ⟨Nat.le_of_ble_eq_true rfl, Nat.le_of_ble_eq_true rfl⟩) hS (fun q _ h => hFc q h) hFc (fun r_35 u t H locs ht hvm w_36 hB hz1 hk1 hS => ?_)
  obtain ⟨hP1, hK1, hD1⟩ := hB
  rw [ht] at hP1
  have hP1 : va_P G.1 vwCl [] H := hP1
  have hD1 : va_D (va_A [] _) [] := hD1
  have w_36 : r_35 = 1 := w_36
  obtain ⟨hP, hD⟩ := va_join (wr := [(h0, .inr (6, [.int 0, .ref kd, .ref mo, .ref st, .int 0, .ref ro, .ref tp, .int 40, .ref cd, .ref sr, .int 0, .int 0, .int 0, .ref ir, .ref ih, .ref ss, .ref sq, .ref ce, .ref lw, .int 34, .int 31, .int 0, .int 0, .ref wo, .ref he, .int 0, .int 0, .int 4, .ref sk, .ref na, .ref kp, .int 0, .int 0, .int 0, .int 0, .ref gb, .ref go, .ref fa, .ref ga, .int 0, .int 0, .ref vo])), (tp, .inl (G.2.1, 160, .inl (gPf tB 40))), (wo, .inl (G.2.1, 96, .inl (gPf tW 96)))]) (w1 := []) hP hD [] [0, 1, 2] rfl rfl (by decide) (by decide) hk1 hFc hP1 hD1
  have hP : va_P G.1 vwCl [(h0, .inr (6, [.int 0, .ref kd, .ref mo, .ref st, .int 0, .ref ro, .ref tp, .int 40, .ref cd, .ref sr, .int 0, .int 0, .int 0, .ref ir, .ref ih, .ref ss, .ref sq, .ref ce, .ref lw, .int 34, .int 31, .int 0, .int 0, .ref wo, .ref he, .int 0, .int 0, .int 4, .ref sk, .ref na, .ref kp, .int 0, .int 0, .int 0, .int 0, .ref gb, .ref go, .ref fa, .ref ga, .int 0, .int 0, .ref vo])), (tp, .inl (G.2.1, 160, .inl (gPf tB 40))), (wo, .inl (G.2.1, 96, .inl (gPf tW 96)))] H := hP
  have hD : va_D A [(h0, .inr (6, [.int 0, .ref kd, .ref mo, .ref st, .int 0, .ref ro, .ref tp, .int 40, .ref cd, .ref sr, .int 0, .int 0, .int 0, .ref ir, .ref ih, .ref ss, .ref sq, .ref ce, .ref lw, .int 34, .int 31, .int 0, .int 0, .ref wo, .ref he, .int 0, .int 0, .int 4, .ref sk, .ref na, .ref kp, .int 0, .int 0, .int 0, .int 0, .ref gb, .ref go, .ref fa, .ref ga, .int 0, .int 0, .ref vo])), (tp, .inl (G.2.1, 160, .inl (gPf tB 40))), (wo, .inl (G.2.1, 96, .inl (gPf tW 96)))] := hD
  have w_36 : r_35 = 1 := w_36
  subst w_36
  refine lv_if_eq (tgt := 146) hx hb dX6_next_130 (by decide) (fun c_37 => ?_) (fun c_37 => ?_)
  · exact absurd c_37 (by decide)
  refine lv_aload_n hx hb dX6_next_133 rfl (lv_at hl 1 rfl) ?_
  refine lv_dup hx hb dX6_next_134 rfl ?_
  refine va_get (D := G.1) (ci := 6) (v := .int 34) (C := RX6) (T := TX6) (N := 42) hx hb hts hiX6 hown hK hP 0 rfl rfl 19 (by decide) kf111 (fun _ h9 => h9) rfl dX6_next_135 ?_
  refine lv_iconst (v := 1) hx hb dX6_next_138 (by decide) ?_
  refine lv_iadd hx hb dX6_next_139 ?_
  refine lv_topi (fun v_38 ev_38 => ?_)
  have ev_38 : v_38 = 35 := ev_38.trans (by decide)
  subst ev_38
  refine va_put (D := G.1) (ci := 6) (v := .int 35) (ty := .int) (C := RX6) (T := TX6) (N := 42) hx hb hts hiX6 tyX6 tyX6_ok nmX6 hown hK hP hD hS 0 rfl rfl 19 (by decide) kf111 (fun _ h9 => h9) rfl (by decide +kernel) rfl rfl (Nat.le_of_ble_eq_true rfl) dX6_next_140 (fun H locs hP hD hS => ?_)
  have hP : va_P G.1 vwCl [(h0, .inr (6, [.int 0, .ref kd, .ref mo, .ref st, .int 0, .ref ro, .ref tp, .int 40, .ref cd, .ref sr, .int 0, .int 0, .int 0, .ref ir, .ref ih, .ref ss, .ref sq, .ref ce, .ref lw, .int 35, .int 31, .int 0, .int 0, .ref wo, .ref he, .int 0, .int 0, .int 4, .ref sk, .ref na, .ref kp, .int 0, .int 0, .int 0, .int 0, .ref gb, .ref go, .ref fa, .ref ga, .int 0, .int 0, .ref vo])), (tp, .inl (G.2.1, 160, .inl (gPf tB 40))), (wo, .inl (G.2.1, 96, .inl (gPf tW 96)))] H := hP
  have hD : va_D A [(h0, .inr (6, [.int 0, .ref kd, .ref mo, .ref st, .int 0, .ref ro, .ref tp, .int 40, .ref cd, .ref sr, .int 0, .int 0, .int 0, .ref ir, .ref ih, .ref ss, .ref sq, .ref ce, .ref lw, .int 35, .int 31, .int 0, .int 0, .ref wo, .ref he, .int 0, .int 0, .int 4, .ref sk, .ref na, .ref kp, .int 0, .int 0, .int 0, .int 0, .ref gb, .ref go, .ref fa, .ref ga, .int 0, .int 0, .ref vo])), (tp, .inl (G.2.1, 160, .inl (gPf tB 40))), (wo, .inl (G.2.1, 96, .inl (gPf tW 96)))] := hD
  refine lv_goto (tgt := 103) hx hb dX6_next_143 (by decide) ?_
  refine lv_aload_n hx hb dX6_next_103 rfl (lv_at hl 1 rfl) ?_
  refine va_get (D := G.1) (ci := 6) (v := .int 35) (C := RX6) (T := TX6) (N := 42) hx hb hts hiX6 hown hK hP 0 rfl rfl 19 (by decide) kf111 (fun _ h9 => h9) rfl dX6_next_104 ?_
  refine lv_aload_n hx hb dX6_next_107 rfl (lv_at hl 1 rfl) ?_
  refine va_get (D := G.1) (ci := 6) (v := .int 40) (C := RX6) (T := TX6) (N := 42) hx hb hts hiX6 hown hK hP 0 rfl rfl 7 (by decide) kf80 (fun _ h9 => h9) rfl dX6_next_108 ?_
  refine lv_icmp_ge (tgt := 146) hx hb dX6_next_111 (by decide) (fun c_39 => ?_) (fun c_39 => ?_)
  · exact absurd c_39 (by decide)
  refine lv_aload_n hx hb dX6_next_114 rfl (lv_at hl 1 rfl) ?_
  refine va_get (D := G.1) (ci := 6) (v := .ref tp) (C := RX6) (T := TX6) (N := 42) hx hb hts hiX6 hown hK hP 0 rfl rfl 6 (by decide) kf22 (fun _ h9 => h9) rfl dX6_next_115 ?_
  refine lv_aload_n hx hb dX6_next_118 rfl (lv_at hl 1 rfl) ?_
  refine va_get (D := G.1) (ci := 6) (v := .int 35) (C := RX6) (T := TX6) (N := 42) hx hb hts hiX6 hown hK hP 0 rfl rfl 19 (by decide) kf111 (fun _ h9 => h9) rfl dX6_next_119 ?_
  refine va_iald (D := G.1) hx hb hK hP 1 0 rfl rfl (i := 35) (gIn (by decide)) dX6_next_122 ?_
  refine lv_topi (fun v_40 ev_40 => ?_)
  have ev_40 : v_40 = 32 := ev_40.trans (by decide)
  subst ev_40
  refine lv_bipush (v := 97) hx hb dX6_next_123 (by decide) ?_
  refine lv_bipush (v := 122) hx hb dX6_next_125 (by decide) ?_
  have hPc : va_P G.1 vwCl [] H := hP.sub [] rfl
  have hDc : va_D A [] := hD.sub [] (by decide) rfl
  have hFc := va_free (wc := []) hD hS hA [] rfl
  refine va_calli (va_runS (As := [.int 32, .int 97, .int 122]) (rest := []) ⟨hx, hb, hml, hown, hts⟩ (c_X6_in_z6 l G H.size) (va_cwS 3 hts gX6_next_X6_in rfl rfl rfl (by decide +kernel) ⟨Nat.le_of_ble_eq_true rfl, Nat.le_of_ble_eq_true rfl⟩) ⟨gPre_blind, fun U hU hW => gPre_of hU hW hK hPc hDc⟩ rfl rfl hl.1 rfl (lv_room (Nat.le_of_ble_eq_true rfl)) dX6_next_127 ⟨Nat.le_of_ble_eq_true rfl, Nat.le_of_ble_eq_true rfl⟩) hS (fun q _ h => hFc q h) hFc (fun r_41 u t H locs ht hvm w_42 hB hz1 hk1 hS => ?_)
  obtain ⟨hP1, hK1, hD1⟩ := hB
  rw [ht] at hP1
  have hP1 : va_P G.1 vwCl [] H := hP1
  have hD1 : va_D (va_A [] _) [] := hD1
  have w_42 : r_41 = 0 := w_42
  obtain ⟨hP, hD⟩ := va_join (wr := [(h0, .inr (6, [.int 0, .ref kd, .ref mo, .ref st, .int 0, .ref ro, .ref tp, .int 40, .ref cd, .ref sr, .int 0, .int 0, .int 0, .ref ir, .ref ih, .ref ss, .ref sq, .ref ce, .ref lw, .int 35, .int 31, .int 0, .int 0, .ref wo, .ref he, .int 0, .int 0, .int 4, .ref sk, .ref na, .ref kp, .int 0, .int 0, .int 0, .int 0, .ref gb, .ref go, .ref fa, .ref ga, .int 0, .int 0, .ref vo])), (tp, .inl (G.2.1, 160, .inl (gPf tB 40))), (wo, .inl (G.2.1, 96, .inl (gPf tW 96)))]) (w1 := []) hP hD [] [0, 1, 2] rfl rfl (by decide) (by decide) hk1 hFc hP1 hD1
  have hP : va_P G.1 vwCl [(h0, .inr (6, [.int 0, .ref kd, .ref mo, .ref st, .int 0, .ref ro, .ref tp, .int 40, .ref cd, .ref sr, .int 0, .int 0, .int 0, .ref ir, .ref ih, .ref ss, .ref sq, .ref ce, .ref lw, .int 35, .int 31, .int 0, .int 0, .ref wo, .ref he, .int 0, .int 0, .int 4, .ref sk, .ref na, .ref kp, .int 0, .int 0, .int 0, .int 0, .ref gb, .ref go, .ref fa, .ref ga, .int 0, .int 0, .ref vo])), (tp, .inl (G.2.1, 160, .inl (gPf tB 40))), (wo, .inl (G.2.1, 96, .inl (gPf tW 96)))] H := hP
  have hD : va_D A [(h0, .inr (6, [.int 0, .ref kd, .ref mo, .ref st, .int 0, .ref ro, .ref tp, .int 40, .ref cd, .ref sr, .int 0, .int 0, .int 0, .ref ir, .ref ih, .ref ss, .ref sq, .ref ce, .ref lw, .int 35, .int 31, .int 0, .int 0, .ref wo, .ref he, .int 0, .int 0, .int 4, .ref sk, .ref na, .ref kp, .int 0, .int 0, .int 0, .int 0, .ref gb, .ref go, .ref fa, .ref ga, .int 0, .int 0, .ref vo])), (tp, .inl (G.2.1, 160, .inl (gPf tB 40))), (wo, .inl (G.2.1, 96, .inl (gPf tW 96)))] := hD
  have w_42 : r_41 = 0 := w_42
  subst w_42
  refine lv_if_eq (tgt := 146) hx hb dX6_next_130 (by decide) (fun c_43 => ?_) (fun c_43 => ?_)
  rotate_left
  · exact absurd (by decide) c_43
  refine lv_aload_n hx hb dX6_next_146 rfl (lv_at hl 1 rfl) ?_
  refine lv_aload_n hx hb dX6_next_147 rfl (lv_at hl 1 rfl) ?_
  refine va_get (D := G.1) (ci := 6) (v := .int 31) (C := RX6) (T := TX6) (N := 42) hx hb hts hiX6 hown hK hP 0 rfl rfl 20 (by decide) kf114 (fun _ h9 => h9) rfl dX6_next_148 ?_
  refine lv_aload_n hx hb dX6_next_151 rfl (lv_at hl 1 rfl) ?_
  refine va_get (D := G.1) (ci := 6) (v := .int 35) (C := RX6) (T := TX6) (N := 42) hx hb hts hiX6 hown hK hP 0 rfl rfl 19 (by decide) kf111 (fun _ h9 => h9) rfl dX6_next_152 ?_
  have hPc : va_P G.1 vwCl [(h0, .inr (6, [.int 0, .ref kd, .ref mo, .ref st, .int 0, .ref ro, .ref tp, .int 40, .ref cd, .ref sr, .int 0, .int 0, .int 0, .ref ir, .ref ih, .ref ss, .ref sq, .ref ce, .ref lw, .int 35, .int 31, .int 0, .int 0, .ref wo, .ref he, .int 0, .int 0, .int 4, .ref sk, .ref na, .ref kp, .int 0, .int 0, .int 0, .int 0, .ref gb, .ref go, .ref fa, .ref ga, .int 0, .int 0, .ref vo])), (tp, .inl (G.2.1, 160, .inl (gPf tB 40))), (wo, .inl (G.2.1, 96, .inl (gPf tW 96)))] H := hP.sub [0, 1, 2] rfl
  have hDc : va_D A [(h0, .inr (6, [.int 0, .ref kd, .ref mo, .ref st, .int 0, .ref ro, .ref tp, .int 40, .ref cd, .ref sr, .int 0, .int 0, .int 0, .ref ir, .ref ih, .ref ss, .ref sq, .ref ce, .ref lw, .int 35, .int 31, .int 0, .int 0, .ref wo, .ref he, .int 0, .int 0, .int 4, .ref sk, .ref na, .ref kp, .int 0, .int 0, .int 0, .int 0, .ref gb, .ref go, .ref fa, .ref ga, .int 0, .int 0, .ref vo])), (tp, .inl (G.2.1, 160, .inl (gPf tB 40))), (wo, .inl (G.2.1, 96, .inl (gPf tW 96)))] := hD.sub [0, 1, 2] (by decide) rfl
  have hFc := va_free (wc := [(h0, .inr (6, [.int 0, .ref kd, .ref mo, .ref st, .int 0, .ref ro, .ref tp, .int 40, .ref cd, .ref sr, .int 0, .int 0, .int 0, .ref ir, .ref ih, .ref ss, .ref sq, .ref ce, .ref lw, .int 35, .int 31, .int 0, .int 0, .ref wo, .ref he, .int 0, .int 0, .int 4, .ref sk, .ref na, .ref kp, .int 0, .int 0, .int 0, .int 0, .ref gb, .ref go, .ref fa, .ref ga, .int 0, .int 0, .ref vo])), (tp, .inl (G.2.1, 160, .inl (gPf tB 40))), (wo, .inl (G.2.1, 96, .inl (gPf tW 96)))]) hD hS hA [0, 1, 2] rfl
  refine va_calli (va_runV (As := [.int 31, .int 35]) (rest := []) ⟨hx, hb, hml, hown, hts⟩ (c_X6_wordFrom_z52 l G h0 kd mo st ro tp cd sr ir ih ss sq ce lw wo he sk na kp gb go fa ga vo H.size) (cwV 2 hts gX6_next_X6_wordFrom rfl rfl rfl (by decide +kernel) ⟨Nat.le_of_ble_eq_true rfl, Nat.le_of_ble_eq_true rfl⟩) ⟨gPre_blind, va_recv hK hPc (ci := 6) (q0 := 0) rfl rfl, fun U hU hW => gPre_of hU hW hK hPc hDc⟩ rfl rfl hl.1 rfl (lv_room (Nat.le_of_ble_eq_true rfl)) dX6_next_155 ⟨Nat.le_of_ble_eq_true rfl, Nat.le_of_ble_eq_true rfl⟩) hS (fun q _ h => hFc q h) hFc (fun r_44 u t H locs ht hvm w_45 hB hz1 hk1 hS => ?_)
  obtain ⟨hP1, hK1, hD1⟩ := hB
  rw [ht] at hP1
  have hP1 : va_P G.1 vwCl [(h0, .inr (6, [.int 0, .ref kd, .ref mo, .ref st, .int 0, .ref ro, .ref tp, .int 40, .ref cd, .ref sr, .int 0, .int 0, .int 0, .ref ir, .ref ih, .ref ss, .ref sq, .ref ce, .ref lw, .int 35, .int 31, .int 0, .int 0, .ref wo, .ref he, .int 0, .int 0, .int 4, .ref sk, .ref na, .ref kp, .int 0, .int 0, .int 0, .int 0, .ref gb, .ref go, .ref fa, .ref ga, .int 0, .int 0, .ref vo])), (tp, .inl (G.2.1, 160, .inl (gPf tB 40))), (wo, .inl (G.2.1, 96, .inl (gPf tW 96)))] H := hP1
  have hD1 : va_D (va_A [(h0, .inr (6, [.int 0, .ref kd, .ref mo, .ref st, .int 0, .ref ro, .ref tp, .int 40, .ref cd, .ref sr, .int 0, .int 0, .int 0, .ref ir, .ref ih, .ref ss, .ref sq, .ref ce, .ref lw, .int 35, .int 31, .int 0, .int 0, .ref wo, .ref he, .int 0, .int 0, .int 4, .ref sk, .ref na, .ref kp, .int 0, .int 0, .int 0, .int 0, .ref gb, .ref go, .ref fa, .ref ga, .int 0, .int 0, .ref vo])), (tp, .inl (G.2.1, 160, .inl (gPf tB 40))), (wo, .inl (G.2.1, 96, .inl (gPf tW 96)))] _) [(h0, .inr (6, [.int 0, .ref kd, .ref mo, .ref st, .int 0, .ref ro, .ref tp, .int 40, .ref cd, .ref sr, .int 0, .int 0, .int 0, .ref ir, .ref ih, .ref ss, .ref sq, .ref ce, .ref lw, .int 35, .int 31, .int 0, .int 0, .ref wo, .ref he, .int 0, .int 0, .int 4, .ref sk, .ref na, .ref kp, .int 0, .int 0, .int 0, .int 0, .ref gb, .ref go, .ref fa, .ref ga, .int 0, .int 0, .ref vo])), (tp, .inl (G.2.1, 160, .inl (gPf tB 40))), (wo, .inl (G.2.1, 96, .inl (gPf tW 96)))] := hD1
  have w_45 : r_44 = 2 := w_45
  obtain ⟨hP, hD⟩ := va_join (wr := []) (w1 := [(h0, .inr (6, [.int 0, .ref kd, .ref mo, .ref st, .int 0, .ref ro, .ref tp, .int 40, .ref cd, .ref sr, .int 0, .int 0, .int 0, .ref ir, .ref ih, .ref ss, .ref sq, .ref ce, .ref lw, .int 35, .int 31, .int 0, .int 0, .ref wo, .ref he, .int 0, .int 0, .int 4, .ref sk, .ref na, .ref kp, .int 0, .int 0, .int 0, .int 0, .ref gb, .ref go, .ref fa, .ref ga, .int 0, .int 0, .ref vo])), (tp, .inl (G.2.1, 160, .inl (gPf tB 40))), (wo, .inl (G.2.1, 96, .inl (gPf tW 96)))]) hP hD [0, 1, 2] [] rfl rfl (by decide) (by decide) hk1 hFc hP1 hD1
  have hP : va_P G.1 vwCl [(h0, .inr (6, [.int 0, .ref kd, .ref mo, .ref st, .int 0, .ref ro, .ref tp, .int 40, .ref cd, .ref sr, .int 0, .int 0, .int 0, .ref ir, .ref ih, .ref ss, .ref sq, .ref ce, .ref lw, .int 35, .int 31, .int 0, .int 0, .ref wo, .ref he, .int 0, .int 0, .int 4, .ref sk, .ref na, .ref kp, .int 0, .int 0, .int 0, .int 0, .ref gb, .ref go, .ref fa, .ref ga, .int 0, .int 0, .ref vo])), (tp, .inl (G.2.1, 160, .inl (gPf tB 40))), (wo, .inl (G.2.1, 96, .inl (gPf tW 96)))] H := hP
  have hD : va_D A [(h0, .inr (6, [.int 0, .ref kd, .ref mo, .ref st, .int 0, .ref ro, .ref tp, .int 40, .ref cd, .ref sr, .int 0, .int 0, .int 0, .ref ir, .ref ih, .ref ss, .ref sq, .ref ce, .ref lw, .int 35, .int 31, .int 0, .int 0, .ref wo, .ref he, .int 0, .int 0, .int 4, .ref sk, .ref na, .ref kp, .int 0, .int 0, .int 0, .int 0, .ref gb, .ref go, .ref fa, .ref ga, .int 0, .int 0, .ref vo])), (tp, .inl (G.2.1, 160, .inl (gPf tB 40))), (wo, .inl (G.2.1, 96, .inl (gPf tW 96)))] := hD
  have w_45 : r_44 = 2 := w_45
  subst w_45
  refine lv_istore_n (lv' := [(2, .int 2), (1, .int 98), (0, .ref h0)]) hx hb dX6_next_158 rfl hl (by decide) rfl (fun ls hl => ?_)
  refine lv_aload_n hx hb dX6_next_159 rfl (lv_at hl 2 rfl) ?_
  refine lv_iload_n hx hb dX6_next_160 rfl (lv_at hl 0 rfl) ?_
  refine lv_iconst (v := 3) hx hb dX6_next_161 (by decide) ?_
  refine lv_icmp_ge (tgt := 169) hx hb dX6_next_162 (by decide) (fun c_46 => ?_) (fun c_46 => ?_)
  · exact absurd c_46 (by decide)
  refine lv_iconst (v := 3) hx hb dX6_next_165 (by decide) ?_
  refine lv_goto (tgt := 195) hx hb dX6_next_166 (by decide) ?_
  refine va_put (D := G.1) (ci := 6) (v := .int 3) (ty := .int) (C := RX6) (T := TX6) (N := 42) hx hb hts hiX6 tyX6 tyX6_ok nmX6 hown hK hP hD hS 0 rfl rfl 21 (by decide) kf117 (fun _ h9 => h9) rfl (by decide +kernel) rfl rfl (Nat.le_of_ble_eq_true rfl) dX6_next_195 (fun H locs hP hD hS => ?_)
  have hP : va_P G.1 vwCl [(h0, .inr (6, [.int 0, .ref kd, .ref mo, .ref st, .int 0, .ref ro, .ref tp, .int 40, .ref cd, .ref sr, .int 0, .int 0, .int 0, .ref ir, .ref ih, .ref ss, .ref sq, .ref ce, .ref lw, .int 35, .int 31, .int 3, .int 0, .ref wo, .ref he, .int 0, .int 0, .int 4, .ref sk, .ref na, .ref kp, .int 0, .int 0, .int 0, .int 0, .ref gb, .ref go, .ref fa, .ref ga, .int 0, .int 0, .ref vo])), (tp, .inl (G.2.1, 160, .inl (gPf tB 40))), (wo, .inl (G.2.1, 96, .inl (gPf tW 96)))] H := hP
  have hD : va_D A [(h0, .inr (6, [.int 0, .ref kd, .ref mo, .ref st, .int 0, .ref ro, .ref tp, .int 40, .ref cd, .ref sr, .int 0, .int 0, .int 0, .ref ir, .ref ih, .ref ss, .ref sq, .ref ce, .ref lw, .int 35, .int 31, .int 3, .int 0, .ref wo, .ref he, .int 0, .int 0, .int 4, .ref sk, .ref na, .ref kp, .int 0, .int 0, .int 0, .int 0, .ref gb, .ref go, .ref fa, .ref ga, .int 0, .int 0, .ref vo])), (tp, .inl (G.2.1, 160, .inl (gPf tB 40))), (wo, .inl (G.2.1, 96, .inl (gPf tW 96)))] := hD
  refine lv_aload_n hx hb dX6_next_198 rfl (lv_at hl 2 rfl) ?_
  refine lv_iload_n hx hb dX6_next_199 rfl (lv_at hl 0 rfl) ?_
  refine lv_iconst (v := 3) hx hb dX6_next_200 (by decide) ?_
  refine lv_icmp_ge (tgt := 208) hx hb dX6_next_201 (by decide) (fun c_47 => ?_) (fun c_47 => ?_)
  · exact absurd c_47 (by decide)
  refine lv_iload_n hx hb dX6_next_204 rfl (lv_at hl 0 rfl) ?_
  refine lv_goto (tgt := 211) hx hb dX6_next_205 (by decide) ?_
  refine va_put (D := G.1) (ci := 6) (v := .int 2) (ty := .int) (C := RX6) (T := TX6) (N := 42) hx hb hts hiX6 tyX6 tyX6_ok nmX6 hown hK hP hD hS 0 rfl rfl 22 (by decide) kf120 (fun _ h9 => h9) rfl (by decide +kernel) rfl rfl (Nat.le_of_ble_eq_true rfl) dX6_next_211 (fun H locs hP hD hS => ?_)
  have hP : va_P G.1 vwCl [(h0, .inr (6, [.int 0, .ref kd, .ref mo, .ref st, .int 0, .ref ro, .ref tp, .int 40, .ref cd, .ref sr, .int 0, .int 0, .int 0, .ref ir, .ref ih, .ref ss, .ref sq, .ref ce, .ref lw, .int 35, .int 31, .int 3, .int 2, .ref wo, .ref he, .int 0, .int 0, .int 4, .ref sk, .ref na, .ref kp, .int 0, .int 0, .int 0, .int 0, .ref gb, .ref go, .ref fa, .ref ga, .int 0, .int 0, .ref vo])), (tp, .inl (G.2.1, 160, .inl (gPf tB 40))), (wo, .inl (G.2.1, 96, .inl (gPf tW 96)))] H := hP
  have hD : va_D A [(h0, .inr (6, [.int 0, .ref kd, .ref mo, .ref st, .int 0, .ref ro, .ref tp, .int 40, .ref cd, .ref sr, .int 0, .int 0, .int 0, .ref ir, .ref ih, .ref ss, .ref sq, .ref ce, .ref lw, .int 35, .int 31, .int 3, .int 2, .ref wo, .ref he, .int 0, .int 0, .int 4, .ref sk, .ref na, .ref kp, .int 0, .int 0, .int 0, .int 0, .ref gb, .ref go, .ref fa, .ref ga, .int 0, .int 0, .ref vo])), (tp, .inl (G.2.1, 160, .inl (gPf tB 40))), (wo, .inl (G.2.1, 96, .inl (gPf tW 96)))] := hD
  refine lv_goto (tgt := 403) hx hb dX6_next_214 (by decide) ?_
  have hP9 := hP.sub (ws' := [(h0, .inr (6, [.int 0, .ref kd, .ref mo, .ref st, .int 0, .ref ro, .ref tp, .int 40, .ref cd, .ref sr, .int 0, .int 0, .int 0, .ref ir, .ref ih, .ref ss, .ref sq, .ref ce, .ref lw, .int 35, .int 31, .int 3, .int 2, .ref wo, .ref he, .int 0, .int 0, .int 4, .ref sk, .ref na, .ref kp, .int 0, .int 0, .int 0, .int 0, .ref gb, .ref go, .ref fa, .ref ga, .int 0, .int 0, .ref vo])), (tp, .inl (G.2.1, 160, .inl (gPf tB 40))), (wo, .inl (G.2.1, 96, .inl (gPf tW 96)))]) [0, 1, 2] rfl
  have hD9 := hD.sub (ws' := [(h0, .inr (6, [.int 0, .ref kd, .ref mo, .ref st, .int 0, .ref ro, .ref tp, .int 40, .ref cd, .ref sr, .int 0, .int 0, .int 0, .ref ir, .ref ih, .ref ss, .ref sq, .ref ce, .ref lw, .int 35, .int 31, .int 3, .int 2, .ref wo, .ref he, .int 0, .int 0, .int 4, .ref sk, .ref na, .ref kp, .int 0, .int 0, .int 0, .int 0, .ref gb, .ref go, .ref fa, .ref ga, .int 0, .int 0, .ref vo])), (tp, .inl (G.2.1, 160, .inl (gPf tB 40))), (wo, .inl (G.2.1, 96, .inl (gPf tW 96)))]) [0, 1, 2] (by decide) rfl
  have hpost : (fun (u : Unit) => match u with | _ => True) () := by first | rfl | trivial
  exact W.vret hx hb hr (fun t ht hW => ⟨⟨(), rfl, hpost, by rw [ht]; exact hP9, va_K.moved hW.alike hK, hD9⟩, hS.F ht⟩) hS.2.2 dX6_next_403
abbrev q_X6_in_z55 (G : gG) (A : Nat → Prop) : Array Value → State → Outcome → State → Prop := va_Qi (fun (r : Int32) (u : Unit) => match u with | _ => r = 0) (fun (u : Unit) t => match u with | _ => va_P G.1 vwCl [] t.heap ∧ gK G t ∧ va_D A []) A
set_option maxHeartbeats 4000000 in
set_option maxRecDepth 100000 in
theorem c_X6_in_z55 (l : Launch) (G : gG) (sz : Nat) : Met l yX6_in wsX6_in ({ frames := 0, cells := 0, slots := 0, locals := 0 }) (gPre G [.int 51, .int 97, .int 122] [] sz) (q_X6_in_z55 G (va_A [] sz)) 0 0 (va_A [] sz) := by
  refine Met.ofW (cc := cX6_in) (maxL := 3) (ret := (some .boolean)) (by decide) rfl ?_
  intro p e s m args below meth c s₁ B hml hv
  obtain ⟨rfl, hsz, hP, hK, hD0⟩ := hv
  have hx := B.exec
  have hb := B.bytes
  have hr := B.returns
  have hts := atoms_spec (ws := wsX6_in) B.pre
  have hown : s.vm.findClass RX6 = some m.cls := findClass_of_methodNamed B.named
  have hlocks := B.notSynchronized
  subst hsz
  have hD := hD0.self (sz := s.heap.size)
  generalize hAe : va_A [] s.heap.size = A at hD ⊢
  have hA : ∀ q : Nat, s.heap.size ≤ q → A q := fun q h => by rw [← hAe]; exact Or.inr h
  have hS : va_S A s.heap s.heap [] := va_S.rf
  have hP : va_P G.1 vwCl [] s.heap := hP
  have hD : va_D A [] := hD
  have hl := lv_entry ([.int 51, .int 97, .int 122]) (n := 3) (Nat.le_of_ble_eq_true rfl)
  rw [lg_entry_eq]
  generalize (lg_sl ([.int 51, .int 97, .int 122]) ++ List.replicate (3 - (lg_sl ([.int 51, .int 97, .int 122])).length) Slot.unset).toArray = ls at hl ⊢
  have hl : lv_has ls 3 [(0, .int 51), (1, .int 97), (2, .int 122)] := hl
  refine lv_iload_n hx hb dX6_in_0 rfl (lv_at hl 0 rfl) ?_
  refine lv_iload_n hx hb dX6_in_1 rfl (lv_at hl 1 rfl) ?_
  refine lv_icmp_lt (tgt := 14) hx hb dX6_in_2 (by decide) (fun c_1 => ?_) (fun c_1 => ?_)
  rotate_left
  · exact absurd (by decide) c_1
  refine lv_iconst (v := 0) hx hb dX6_in_14 (by decide) ?_
  have hP9 := hP.sub (ws' := []) [] rfl
  have hD9 := hD.sub (ws' := []) [] (by decide) rfl
  have hpost : (fun (r : Int32) (u : Unit) => match u with | _ => r = 0) 0 () := by first | rfl | trivial
  exact W.zret (v := 0) hx hb hr (rfl) (fun t ht hW => ⟨⟨0, (), rfl, hpost, by rw [ht]; exact hP9, va_K.moved hW.alike hK, hD9⟩, hS.F ht⟩) hS.2.2 dX6_in_15
abbrev q_X6_in_z56 (G : gG) (A : Nat → Prop) : Array Value → State → Outcome → State → Prop := va_Qi (fun (r : Int32) (u : Unit) => match u with | _ => r = 1) (fun (u : Unit) t => match u with | _ => va_P G.1 vwCl [] t.heap ∧ gK G t ∧ va_D A []) A
set_option maxHeartbeats 4000000 in
set_option maxRecDepth 100000 in
theorem c_X6_in_z56 (l : Launch) (G : gG) (sz : Nat) : Met l yX6_in wsX6_in ({ frames := 0, cells := 0, slots := 0, locals := 0 }) (gPre G [.int 51, .int 48, .int 57] [] sz) (q_X6_in_z56 G (va_A [] sz)) 0 0 (va_A [] sz) := by
  refine Met.ofW (cc := cX6_in) (maxL := 3) (ret := (some .boolean)) (by decide) rfl ?_
  intro p e s m args below meth c s₁ B hml hv
  obtain ⟨rfl, hsz, hP, hK, hD0⟩ := hv
  have hx := B.exec
  have hb := B.bytes
  have hr := B.returns
  have hts := atoms_spec (ws := wsX6_in) B.pre
  have hown : s.vm.findClass RX6 = some m.cls := findClass_of_methodNamed B.named
  have hlocks := B.notSynchronized
  subst hsz
  have hD := hD0.self (sz := s.heap.size)
  generalize hAe : va_A [] s.heap.size = A at hD ⊢
  have hA : ∀ q : Nat, s.heap.size ≤ q → A q := fun q h => by rw [← hAe]; exact Or.inr h
  have hS : va_S A s.heap s.heap [] := va_S.rf
  have hP : va_P G.1 vwCl [] s.heap := hP
  have hD : va_D A [] := hD
  have hl := lv_entry ([.int 51, .int 48, .int 57]) (n := 3) (Nat.le_of_ble_eq_true rfl)
  rw [lg_entry_eq]
  generalize (lg_sl ([.int 51, .int 48, .int 57]) ++ List.replicate (3 - (lg_sl ([.int 51, .int 48, .int 57])).length) Slot.unset).toArray = ls at hl ⊢
  have hl : lv_has ls 3 [(0, .int 51), (1, .int 48), (2, .int 57)] := hl
  refine lv_iload_n hx hb dX6_in_0 rfl (lv_at hl 0 rfl) ?_
  refine lv_iload_n hx hb dX6_in_1 rfl (lv_at hl 1 rfl) ?_
  refine lv_icmp_lt (tgt := 14) hx hb dX6_in_2 (by decide) (fun c_1 => ?_) (fun c_1 => ?_)
  · exact absurd c_1 (by decide)
  refine lv_iload_n hx hb dX6_in_5 rfl (lv_at hl 0 rfl) ?_
  refine lv_iload_n hx hb dX6_in_6 rfl (lv_at hl 2 rfl) ?_
  refine lv_icmp_gt (tgt := 14) hx hb dX6_in_7 (by decide) (fun c_2 => ?_) (fun c_2 => ?_)
  · exact absurd c_2 (by decide)
  refine lv_iconst (v := 1) hx hb dX6_in_10 (by decide) ?_
  refine lv_goto (tgt := 15) hx hb dX6_in_11 (by decide) ?_
  have hP9 := hP.sub (ws' := []) [] rfl
  have hD9 := hD.sub (ws' := []) [] (by decide) rfl
  have hpost : (fun (r : Int32) (u : Unit) => match u with | _ => r = 1) 1 () := by first | rfl | trivial
  exact W.zret (v := 1) hx hb hr (rfl) (fun t ht hW => ⟨⟨1, (), rfl, hpost, by rw [ht]; exact hP9, va_K.moved hW.alike hK, hD9⟩, hS.F ht⟩) hS.2.2 dX6_in_15
abbrev q_X6_in_z57 (G : gG) (A : Nat → Prop) : Array Value → State → Outcome → State → Prop := va_Qi (fun (r : Int32) (u : Unit) => match u with | _ => r = 1) (fun (u : Unit) t => match u with | _ => va_P G.1 vwCl [] t.heap ∧ gK G t ∧ va_D A []) A
set_option maxHeartbeats 4000000 in
set_option maxRecDepth 100000 in
theorem c_X6_in_z57 (l : Launch) (G : gG) (sz : Nat) : Met l yX6_in wsX6_in ({ frames := 0, cells := 0, slots := 0, locals := 0 }) (gPre G [.int 48, .int 48, .int 57] [] sz) (q_X6_in_z57 G (va_A [] sz)) 0 0 (va_A [] sz) := by
  refine Met.ofW (cc := cX6_in) (maxL := 3) (ret := (some .boolean)) (by decide) rfl ?_
  intro p e s m args below meth c s₁ B hml hv
  obtain ⟨rfl, hsz, hP, hK, hD0⟩ := hv
  have hx := B.exec
  have hb := B.bytes
  have hr := B.returns
  have hts := atoms_spec (ws := wsX6_in) B.pre
  have hown : s.vm.findClass RX6 = some m.cls := findClass_of_methodNamed B.named
  have hlocks := B.notSynchronized
  subst hsz
  have hD := hD0.self (sz := s.heap.size)
  generalize hAe : va_A [] s.heap.size = A at hD ⊢
  have hA : ∀ q : Nat, s.heap.size ≤ q → A q := fun q h => by rw [← hAe]; exact Or.inr h
  have hS : va_S A s.heap s.heap [] := va_S.rf
  have hP : va_P G.1 vwCl [] s.heap := hP
  have hD : va_D A [] := hD
  have hl := lv_entry ([.int 48, .int 48, .int 57]) (n := 3) (Nat.le_of_ble_eq_true rfl)
  rw [lg_entry_eq]
  generalize (lg_sl ([.int 48, .int 48, .int 57]) ++ List.replicate (3 - (lg_sl ([.int 48, .int 48, .int 57])).length) Slot.unset).toArray = ls at hl ⊢
  have hl : lv_has ls 3 [(0, .int 48), (1, .int 48), (2, .int 57)] := hl
  refine lv_iload_n hx hb dX6_in_0 rfl (lv_at hl 0 rfl) ?_
  refine lv_iload_n hx hb dX6_in_1 rfl (lv_at hl 1 rfl) ?_
  refine lv_icmp_lt (tgt := 14) hx hb dX6_in_2 (by decide) (fun c_1 => ?_) (fun c_1 => ?_)
  · exact absurd c_1 (by decide)
  refine lv_iload_n hx hb dX6_in_5 rfl (lv_at hl 0 rfl) ?_
  refine lv_iload_n hx hb dX6_in_6 rfl (lv_at hl 2 rfl) ?_
  refine lv_icmp_gt (tgt := 14) hx hb dX6_in_7 (by decide) (fun c_2 => ?_) (fun c_2 => ?_)
  · exact absurd c_2 (by decide)
  refine lv_iconst (v := 1) hx hb dX6_in_10 (by decide) ?_
  refine lv_goto (tgt := 15) hx hb dX6_in_11 (by decide) ?_
  have hP9 := hP.sub (ws' := []) [] rfl
  have hD9 := hD.sub (ws' := []) [] (by decide) rfl
  have hpost : (fun (r : Int32) (u : Unit) => match u with | _ => r = 1) 1 () := by first | rfl | trivial
  exact W.zret (v := 1) hx hb hr (rfl) (fun t ht hW => ⟨⟨1, (), rfl, hpost, by rw [ht]; exact hP9, va_K.moved hW.alike hK, hD9⟩, hS.F ht⟩) hS.2.2 dX6_in_15
abbrev q_X6_next_z54 (G : gG) (h0 kd mo st ro tp cd sr ir ih ss sq ce lw wo he sk na kp gb go fa ga vo : Nat) (A : Nat → Prop) : Array Value → State → Outcome → State → Prop := va_Qv (fun (u : Unit) => match u with | _ => True) (fun (u : Unit) t => match u with | _ => va_P G.1 vwCl [(h0, .inr (6, [.int 0, .ref kd, .ref mo, .ref st, .int 0, .ref ro, .ref tp, .int 40, .ref cd, .ref sr, .int 0, .int 0, .int 0, .ref ir, .ref ih, .ref ss, .ref sq, .ref ce, .ref lw, .int 38, .int 36, .int 1, .int 30, .ref wo, .ref he, .int 0, .int 0, .int 4, .ref sk, .ref na, .ref kp, .int 0, .int 0, .int 0, .int 0, .ref gb, .ref go, .ref fa, .ref ga, .int 0, .int 0, .ref vo])), (tp, .inl (G.2.1, 160, .inl (gPf tB 40))), (wo, .inl (G.2.1, 96, .inl (gPf tW 96)))] t.heap ∧ gK G t ∧ va_D A [(h0, .inr (6, [.int 0, .ref kd, .ref mo, .ref st, .int 0, .ref ro, .ref tp, .int 40, .ref cd, .ref sr, .int 0, .int 0, .int 0, .ref ir, .ref ih, .ref ss, .ref sq, .ref ce, .ref lw, .int 38, .int 36, .int 1, .int 30, .ref wo, .ref he, .int 0, .int 0, .int 4, .ref sk, .ref na, .ref kp, .int 0, .int 0, .int 0, .int 0, .ref gb, .ref go, .ref fa, .ref ga, .int 0, .int 0, .ref vo])), (tp, .inl (G.2.1, 160, .inl (gPf tB 40))), (wo, .inl (G.2.1, 96, .inl (gPf tW 96)))]) A
set_option maxHeartbeats 4000000 in
set_option maxRecDepth 100000 in
theorem c_X6_next_z54 (l : Launch) (G : gG) (h0 kd mo st ro tp cd sr ir ih ss sq ce lw wo he sk na kp gb go fa ga vo : Nat) (sz : Nat) : Met l yX6_next wsX6_next ({ frames := 1, cells := 0, slots := 0, locals := 22 }) (gPre G [.ref h0] [(h0, .inr (6, [.int 0, .ref kd, .ref mo, .ref st, .int 0, .ref ro, .ref tp, .int 40, .ref cd, .ref sr, .int 0, .int 0, .int 0, .ref ir, .ref ih, .ref ss, .ref sq, .ref ce, .ref lw, .int 35, .int 31, .int 3, .int 2, .ref wo, .ref he, .int 0, .int 0, .int 4, .ref sk, .ref na, .ref kp, .int 0, .int 0, .int 0, .int 0, .ref gb, .ref go, .ref fa, .ref ga, .int 0, .int 0, .ref vo])), (tp, .inl (G.2.1, 160, .inl (gPf tB 40))), (wo, .inl (G.2.1, 96, .inl (gPf tW 96)))] sz) (q_X6_next_z54 G h0 kd mo st ro tp cd sr ir ih ss sq ce lw wo he sk na kp gb go fa ga vo (va_A [(h0, .inr (6, [.int 0, .ref kd, .ref mo, .ref st, .int 0, .ref ro, .ref tp, .int 40, .ref cd, .ref sr, .int 0, .int 0, .int 0, .ref ir, .ref ih, .ref ss, .ref sq, .ref ce, .ref lw, .int 35, .int 31, .int 3, .int 2, .ref wo, .ref he, .int 0, .int 0, .int 4, .ref sk, .ref na, .ref kp, .int 0, .int 0, .int 0, .int 0, .ref gb, .ref go, .ref fa, .ref ga, .int 0, .int 0, .ref vo])), (tp, .inl (G.2.1, 160, .inl (gPf tB 40))), (wo, .inl (G.2.1, 96, .inl (gPf tW 96)))] sz)) 0 0 (va_A [(h0, .inr (6, [.int 0, .ref kd, .ref mo, .ref st, .int 0, .ref ro, .ref tp, .int 40, .ref cd, .ref sr, .int 0, .int 0, .int 0, .ref ir, .ref ih, .ref ss, .ref sq, .ref ce, .ref lw, .int 35, .int 31, .int 3, .int 2, .ref wo, .ref he, .int 0, .int 0, .int 4, .ref sk, .ref na, .ref kp, .int 0, .int 0, .int 0, .int 0, .ref gb, .ref go, .ref fa, .ref ga, .int 0, .int 0, .ref vo])), (tp, .inl (G.2.1, 160, .inl (gPf tB 40))), (wo, .inl (G.2.1, 96, .inl (gPf tW 96)))] sz) := by
  refine Met.ofW (cc := cX6_next) (maxL := 3) (ret := none) (by decide) rfl ?_
  intro p e s m args below meth c s₁ B hml hv
  obtain ⟨rfl, hsz, hP, hK, hD0⟩ := hv
  have hx := B.exec
  have hb := B.bytes
  have hr := B.returns
  have hts := atoms_spec (ws := wsX6_next) B.pre
  have hown : s.vm.findClass RX6 = some m.cls := findClass_of_methodNamed B.named
  have hlocks := B.notSynchronized
  subst hsz
  have hD := hD0.self (sz := s.heap.size)
  generalize hAe : va_A [(h0, .inr (6, [.int 0, .ref kd, .ref mo, .ref st, .int 0, .ref ro, .ref tp, .int 40, .ref cd, .ref sr, .int 0, .int 0, .int 0, .ref ir, .ref ih, .ref ss, .ref sq, .ref ce, .ref lw, .int 35, .int 31, .int 3, .int 2, .ref wo, .ref he, .int 0, .int 0, .int 4, .ref sk, .ref na, .ref kp, .int 0, .int 0, .int 0, .int 0, .ref gb, .ref go, .ref fa, .ref ga, .int 0, .int 0, .ref vo])), (tp, .inl (G.2.1, 160, .inl (gPf tB 40))), (wo, .inl (G.2.1, 96, .inl (gPf tW 96)))] s.heap.size = A at hD ⊢
  have hA : ∀ q : Nat, s.heap.size ≤ q → A q := fun q h => by rw [← hAe]; exact Or.inr h
  have hS : va_S A s.heap s.heap [] := va_S.rf
  have hP : va_P G.1 vwCl [(h0, .inr (6, [.int 0, .ref kd, .ref mo, .ref st, .int 0, .ref ro, .ref tp, .int 40, .ref cd, .ref sr, .int 0, .int 0, .int 0, .ref ir, .ref ih, .ref ss, .ref sq, .ref ce, .ref lw, .int 35, .int 31, .int 3, .int 2, .ref wo, .ref he, .int 0, .int 0, .int 4, .ref sk, .ref na, .ref kp, .int 0, .int 0, .int 0, .int 0, .ref gb, .ref go, .ref fa, .ref ga, .int 0, .int 0, .ref vo])), (tp, .inl (G.2.1, 160, .inl (gPf tB 40))), (wo, .inl (G.2.1, 96, .inl (gPf tW 96)))] s.heap := hP
  have hD : va_D A [(h0, .inr (6, [.int 0, .ref kd, .ref mo, .ref st, .int 0, .ref ro, .ref tp, .int 40, .ref cd, .ref sr, .int 0, .int 0, .int 0, .ref ir, .ref ih, .ref ss, .ref sq, .ref ce, .ref lw, .int 35, .int 31, .int 3, .int 2, .ref wo, .ref he, .int 0, .int 0, .int 4, .ref sk, .ref na, .ref kp, .int 0, .int 0, .int 0, .int 0, .ref gb, .ref go, .ref fa, .ref ga, .int 0, .int 0, .ref vo])), (tp, .inl (G.2.1, 160, .inl (gPf tB 40))), (wo, .inl (G.2.1, 96, .inl (gPf tW 96)))] := hD
  have hl := lv_entry ([.ref h0]) (n := 3) (Nat.le_of_ble_eq_true rfl)
  rw [lg_entry_eq]
  generalize (lg_sl ([.ref h0]) ++ List.replicate (3 - (lg_sl ([.ref h0])).length) Slot.unset).toArray = ls at hl ⊢
  have hl : lv_has ls 3 [(0, .ref h0)] := hl
  have kf111 := hts (.fieldLink RX6 111 "PebbleInShoeModel" "at" "I") (by decide +kernel)
  have hiX6 := (by decide +kernel : ∀ w ∈ wsX60, w ∈ wsX6_next)
  have kf80 := hts (.fieldLink RX6 80 "PebbleInShoeModel" "taped" "I") (by decide +kernel)
  have kf22 := hts (.fieldLink RX6 22 "PebbleInShoeModel" "tape" "[I") (by decide +kernel)
  have kf114 := hts (.fieldLink RX6 114 "PebbleInShoeModel" "begun" "I") (by decide +kernel)
  have kf117 := hts (.fieldLink RX6 117 "PebbleInShoeModel" "token" "I") (by decide +kernel)
  have kf120 := hts (.fieldLink RX6 120 "PebbleInShoeModel" "value" "I") (by decide +kernel)
  refine lv_aload_n hx hb dX6_next_0 rfl (lv_at hl 0 rfl) ?_
  refine va_get (D := G.1) (ci := 6) (v := .int 35) (C := RX6) (T := TX6) (N := 42) hx hb hts hiX6 hown hK hP 0 rfl rfl 19 (by decide) kf111 (fun _ h9 => h9) rfl dX6_next_1 ?_
  refine lv_aload_n hx hb dX6_next_4 rfl (lv_at hl 0 rfl) ?_
  refine va_get (D := G.1) (ci := 6) (v := .int 40) (C := RX6) (T := TX6) (N := 42) hx hb hts hiX6 hown hK hP 0 rfl rfl 7 (by decide) kf80 (fun _ h9 => h9) rfl dX6_next_5 ?_
  refine lv_icmp_ge (tgt := 52) hx hb dX6_next_8 (by decide) (fun c_1 => ?_) (fun c_1 => ?_)
  · exact absurd c_1 (by decide)
  refine lv_aload_n hx hb dX6_next_11 rfl (lv_at hl 0 rfl) ?_
  refine va_get (D := G.1) (ci := 6) (v := .ref tp) (C := RX6) (T := TX6) (N := 42) hx hb hts hiX6 hown hK hP 0 rfl rfl 6 (by decide) kf22 (fun _ h9 => h9) rfl dX6_next_12 ?_
  refine lv_aload_n hx hb dX6_next_15 rfl (lv_at hl 0 rfl) ?_
  refine va_get (D := G.1) (ci := 6) (v := .int 35) (C := RX6) (T := TX6) (N := 42) hx hb hts hiX6 hown hK hP 0 rfl rfl 19 (by decide) kf111 (fun _ h9 => h9) rfl dX6_next_16 ?_
  refine va_iald (D := G.1) hx hb hK hP 1 0 rfl rfl (i := 35) (gIn (by decide)) dX6_next_19 ?_
  refine lv_topi (fun v_2 ev_2 => ?_)
  have ev_2 : v_2 = 32 := ev_2.trans (by decide)
  subst ev_2
  refine lv_bipush (v := 32) hx hb dX6_next_20 (by decide) ?_
  refine lv_icmp_eq (tgt := 39) hx hb dX6_next_22 (by decide) (fun c_3 => ?_) (fun c_3 => ?_)
  rotate_left
  · exact absurd (by decide) c_3
  refine lv_aload_n hx hb dX6_next_39 rfl (lv_at hl 0 rfl) ?_
  refine lv_dup hx hb dX6_next_40 rfl ?_
  refine va_get (D := G.1) (ci := 6) (v := .int 35) (C := RX6) (T := TX6) (N := 42) hx hb hts hiX6 hown hK hP 0 rfl rfl 19 (by decide) kf111 (fun _ h9 => h9) rfl dX6_next_41 ?_
  refine lv_iconst (v := 1) hx hb dX6_next_44 (by decide) ?_
  refine lv_iadd hx hb dX6_next_45 ?_
  refine lv_topi (fun v_4 ev_4 => ?_)
  have ev_4 : v_4 = 36 := ev_4.trans (by decide)
  subst ev_4
  refine va_put (D := G.1) (ci := 6) (v := .int 36) (ty := .int) (C := RX6) (T := TX6) (N := 42) hx hb hts hiX6 tyX6 tyX6_ok nmX6 hown hK hP hD hS 0 rfl rfl 19 (by decide) kf111 (fun _ h9 => h9) rfl (by decide +kernel) rfl rfl (Nat.le_of_ble_eq_true rfl) dX6_next_46 (fun H locs hP hD hS => ?_)
  have hP : va_P G.1 vwCl [(h0, .inr (6, [.int 0, .ref kd, .ref mo, .ref st, .int 0, .ref ro, .ref tp, .int 40, .ref cd, .ref sr, .int 0, .int 0, .int 0, .ref ir, .ref ih, .ref ss, .ref sq, .ref ce, .ref lw, .int 36, .int 31, .int 3, .int 2, .ref wo, .ref he, .int 0, .int 0, .int 4, .ref sk, .ref na, .ref kp, .int 0, .int 0, .int 0, .int 0, .ref gb, .ref go, .ref fa, .ref ga, .int 0, .int 0, .ref vo])), (tp, .inl (G.2.1, 160, .inl (gPf tB 40))), (wo, .inl (G.2.1, 96, .inl (gPf tW 96)))] H := hP
  have hD : va_D A [(h0, .inr (6, [.int 0, .ref kd, .ref mo, .ref st, .int 0, .ref ro, .ref tp, .int 40, .ref cd, .ref sr, .int 0, .int 0, .int 0, .ref ir, .ref ih, .ref ss, .ref sq, .ref ce, .ref lw, .int 36, .int 31, .int 3, .int 2, .ref wo, .ref he, .int 0, .int 0, .int 4, .ref sk, .ref na, .ref kp, .int 0, .int 0, .int 0, .int 0, .ref gb, .ref go, .ref fa, .ref ga, .int 0, .int 0, .ref vo])), (tp, .inl (G.2.1, 160, .inl (gPf tB 40))), (wo, .inl (G.2.1, 96, .inl (gPf tW 96)))] := hD
  refine lv_goto (tgt := 0) hx hb dX6_next_49 (by decide) ?_
  refine lv_aload_n hx hb dX6_next_0 rfl (lv_at hl 0 rfl) ?_
  refine va_get (D := G.1) (ci := 6) (v := .int 36) (C := RX6) (T := TX6) (N := 42) hx hb hts hiX6 hown hK hP 0 rfl rfl 19 (by decide) kf111 (fun _ h9 => h9) rfl dX6_next_1 ?_
  refine lv_aload_n hx hb dX6_next_4 rfl (lv_at hl 0 rfl) ?_
  refine va_get (D := G.1) (ci := 6) (v := .int 40) (C := RX6) (T := TX6) (N := 42) hx hb hts hiX6 hown hK hP 0 rfl rfl 7 (by decide) kf80 (fun _ h9 => h9) rfl dX6_next_5 ?_
  refine lv_icmp_ge (tgt := 52) hx hb dX6_next_8 (by decide) (fun c_5 => ?_) (fun c_5 => ?_)
  · exact absurd c_5 (by decide)
  refine lv_aload_n hx hb dX6_next_11 rfl (lv_at hl 0 rfl) ?_
  refine va_get (D := G.1) (ci := 6) (v := .ref tp) (C := RX6) (T := TX6) (N := 42) hx hb hts hiX6 hown hK hP 0 rfl rfl 6 (by decide) kf22 (fun _ h9 => h9) rfl dX6_next_12 ?_
  refine lv_aload_n hx hb dX6_next_15 rfl (lv_at hl 0 rfl) ?_
  refine va_get (D := G.1) (ci := 6) (v := .int 36) (C := RX6) (T := TX6) (N := 42) hx hb hts hiX6 hown hK hP 0 rfl rfl 19 (by decide) kf111 (fun _ h9 => h9) rfl dX6_next_16 ?_
  refine va_iald (D := G.1) hx hb hK hP 1 0 rfl rfl (i := 36) (gIn (by decide)) dX6_next_19 ?_
  refine lv_topi (fun v_6 ev_6 => ?_)
  have ev_6 : v_6 = 51 := ev_6.trans (by decide)
  subst ev_6
  refine lv_bipush (v := 32) hx hb dX6_next_20 (by decide) ?_
  refine lv_icmp_eq (tgt := 39) hx hb dX6_next_22 (by decide) (fun c_7 => ?_) (fun c_7 => ?_)
  · exact absurd c_7 (by decide)
  refine lv_aload_n hx hb dX6_next_25 rfl (lv_at hl 0 rfl) ?_
  refine va_get (D := G.1) (ci := 6) (v := .ref tp) (C := RX6) (T := TX6) (N := 42) hx hb hts hiX6 hown hK hP 0 rfl rfl 6 (by decide) kf22 (fun _ h9 => h9) rfl dX6_next_26 ?_
  refine lv_aload_n hx hb dX6_next_29 rfl (lv_at hl 0 rfl) ?_
  refine va_get (D := G.1) (ci := 6) (v := .int 36) (C := RX6) (T := TX6) (N := 42) hx hb hts hiX6 hown hK hP 0 rfl rfl 19 (by decide) kf111 (fun _ h9 => h9) rfl dX6_next_30 ?_
  refine va_iald (D := G.1) hx hb hK hP 1 0 rfl rfl (i := 36) (gIn (by decide)) dX6_next_33 ?_
  refine lv_topi (fun v_8 ev_8 => ?_)
  have ev_8 : v_8 = 51 := ev_8.trans (by decide)
  subst ev_8
  refine lv_bipush (v := 10) hx hb dX6_next_34 (by decide) ?_
  refine lv_icmp_ne (tgt := 52) hx hb dX6_next_36 (by decide) (fun c_9 => ?_) (fun c_9 => ?_)
  rotate_left
  · exact absurd c_9 (by decide)
  refine lv_aload_n hx hb dX6_next_52 rfl (lv_at hl 0 rfl) ?_
  refine lv_aload_n hx hb dX6_next_53 rfl (lv_at hl 0 rfl) ?_
  refine va_get (D := G.1) (ci := 6) (v := .int 36) (C := RX6) (T := TX6) (N := 42) hx hb hts hiX6 hown hK hP 0 rfl rfl 19 (by decide) kf111 (fun _ h9 => h9) rfl dX6_next_54 ?_
  refine va_put (D := G.1) (ci := 6) (v := .int 36) (ty := .int) (C := RX6) (T := TX6) (N := 42) hx hb hts hiX6 tyX6 tyX6_ok nmX6 hown hK hP hD hS 0 rfl rfl 20 (by decide) kf114 (fun _ h9 => h9) rfl (by decide +kernel) rfl rfl (Nat.le_of_ble_eq_true rfl) dX6_next_57 (fun H locs hP hD hS => ?_)
  have hP : va_P G.1 vwCl [(h0, .inr (6, [.int 0, .ref kd, .ref mo, .ref st, .int 0, .ref ro, .ref tp, .int 40, .ref cd, .ref sr, .int 0, .int 0, .int 0, .ref ir, .ref ih, .ref ss, .ref sq, .ref ce, .ref lw, .int 36, .int 36, .int 3, .int 2, .ref wo, .ref he, .int 0, .int 0, .int 4, .ref sk, .ref na, .ref kp, .int 0, .int 0, .int 0, .int 0, .ref gb, .ref go, .ref fa, .ref ga, .int 0, .int 0, .ref vo])), (tp, .inl (G.2.1, 160, .inl (gPf tB 40))), (wo, .inl (G.2.1, 96, .inl (gPf tW 96)))] H := hP
  have hD : va_D A [(h0, .inr (6, [.int 0, .ref kd, .ref mo, .ref st, .int 0, .ref ro, .ref tp, .int 40, .ref cd, .ref sr, .int 0, .int 0, .int 0, .ref ir, .ref ih, .ref ss, .ref sq, .ref ce, .ref lw, .int 36, .int 36, .int 3, .int 2, .ref wo, .ref he, .int 0, .int 0, .int 4, .ref sk, .ref na, .ref kp, .int 0, .int 0, .int 0, .int 0, .ref gb, .ref go, .ref fa, .ref ga, .int 0, .int 0, .ref vo])), (tp, .inl (G.2.1, 160, .inl (gPf tB 40))), (wo, .inl (G.2.1, 96, .inl (gPf tW 96)))] := hD
  refine lv_aload_n hx hb dX6_next_60 rfl (lv_at hl 0 rfl) ?_
  refine lv_iconst (v := 0) hx hb dX6_next_61 (by decide) ?_
  refine va_put (D := G.1) (ci := 6) (v := .int 0) (ty := .int) (C := RX6) (T := TX6) (N := 42) hx hb hts hiX6 tyX6 tyX6_ok nmX6 hown hK hP hD hS 0 rfl rfl 21 (by decide) kf117 (fun _ h9 => h9) rfl (by decide +kernel) rfl rfl (Nat.le_of_ble_eq_true rfl) dX6_next_62 (fun H locs hP hD hS => ?_)
  have hP : va_P G.1 vwCl [(h0, .inr (6, [.int 0, .ref kd, .ref mo, .ref st, .int 0, .ref ro, .ref tp, .int 40, .ref cd, .ref sr, .int 0, .int 0, .int 0, .ref ir, .ref ih, .ref ss, .ref sq, .ref ce, .ref lw, .int 36, .int 36, .int 0, .int 2, .ref wo, .ref he, .int 0, .int 0, .int 4, .ref sk, .ref na, .ref kp, .int 0, .int 0, .int 0, .int 0, .ref gb, .ref go, .ref fa, .ref ga, .int 0, .int 0, .ref vo])), (tp, .inl (G.2.1, 160, .inl (gPf tB 40))), (wo, .inl (G.2.1, 96, .inl (gPf tW 96)))] H := hP
  have hD : va_D A [(h0, .inr (6, [.int 0, .ref kd, .ref mo, .ref st, .int 0, .ref ro, .ref tp, .int 40, .ref cd, .ref sr, .int 0, .int 0, .int 0, .ref ir, .ref ih, .ref ss, .ref sq, .ref ce, .ref lw, .int 36, .int 36, .int 0, .int 2, .ref wo, .ref he, .int 0, .int 0, .int 4, .ref sk, .ref na, .ref kp, .int 0, .int 0, .int 0, .int 0, .ref gb, .ref go, .ref fa, .ref ga, .int 0, .int 0, .ref vo])), (tp, .inl (G.2.1, 160, .inl (gPf tB 40))), (wo, .inl (G.2.1, 96, .inl (gPf tW 96)))] := hD
  refine lv_aload_n hx hb dX6_next_65 rfl (lv_at hl 0 rfl) ?_
  refine lv_iconst (v := 0) hx hb dX6_next_66 (by decide) ?_
  refine va_put (D := G.1) (ci := 6) (v := .int 0) (ty := .int) (C := RX6) (T := TX6) (N := 42) hx hb hts hiX6 tyX6 tyX6_ok nmX6 hown hK hP hD hS 0 rfl rfl 22 (by decide) kf120 (fun _ h9 => h9) rfl (by decide +kernel) rfl rfl (Nat.le_of_ble_eq_true rfl) dX6_next_67 (fun H locs hP hD hS => ?_)
  have hP : va_P G.1 vwCl [(h0, .inr (6, [.int 0, .ref kd, .ref mo, .ref st, .int 0, .ref ro, .ref tp, .int 40, .ref cd, .ref sr, .int 0, .int 0, .int 0, .ref ir, .ref ih, .ref ss, .ref sq, .ref ce, .ref lw, .int 36, .int 36, .int 0, .int 0, .ref wo, .ref he, .int 0, .int 0, .int 4, .ref sk, .ref na, .ref kp, .int 0, .int 0, .int 0, .int 0, .ref gb, .ref go, .ref fa, .ref ga, .int 0, .int 0, .ref vo])), (tp, .inl (G.2.1, 160, .inl (gPf tB 40))), (wo, .inl (G.2.1, 96, .inl (gPf tW 96)))] H := hP
  have hD : va_D A [(h0, .inr (6, [.int 0, .ref kd, .ref mo, .ref st, .int 0, .ref ro, .ref tp, .int 40, .ref cd, .ref sr, .int 0, .int 0, .int 0, .ref ir, .ref ih, .ref ss, .ref sq, .ref ce, .ref lw, .int 36, .int 36, .int 0, .int 0, .ref wo, .ref he, .int 0, .int 0, .int 4, .ref sk, .ref na, .ref kp, .int 0, .int 0, .int 0, .int 0, .ref gb, .ref go, .ref fa, .ref ga, .int 0, .int 0, .ref vo])), (tp, .inl (G.2.1, 160, .inl (gPf tB 40))), (wo, .inl (G.2.1, 96, .inl (gPf tW 96)))] := hD
  refine lv_aload_n hx hb dX6_next_70 rfl (lv_at hl 0 rfl) ?_
  refine va_get (D := G.1) (ci := 6) (v := .int 36) (C := RX6) (T := TX6) (N := 42) hx hb hts hiX6 hown hK hP 0 rfl rfl 19 (by decide) kf111 (fun _ h9 => h9) rfl dX6_next_71 ?_
  refine lv_aload_n hx hb dX6_next_74 rfl (lv_at hl 0 rfl) ?_
  refine va_get (D := G.1) (ci := 6) (v := .int 40) (C := RX6) (T := TX6) (N := 42) hx hb hts hiX6 hown hK hP 0 rfl rfl 7 (by decide) kf80 (fun _ h9 => h9) rfl dX6_next_75 ?_
  refine lv_icmp_ne (tgt := 82) hx hb dX6_next_78 (by decide) (fun c_10 => ?_) (fun c_10 => ?_)
  rotate_left
  · exact absurd c_10 (by decide)
  refine lv_aload_n hx hb dX6_next_82 rfl (lv_at hl 0 rfl) ?_
  refine va_get (D := G.1) (ci := 6) (v := .ref tp) (C := RX6) (T := TX6) (N := 42) hx hb hts hiX6 hown hK hP 0 rfl rfl 6 (by decide) kf22 (fun _ h9 => h9) rfl dX6_next_83 ?_
  refine lv_aload_n hx hb dX6_next_86 rfl (lv_at hl 0 rfl) ?_
  refine va_get (D := G.1) (ci := 6) (v := .int 36) (C := RX6) (T := TX6) (N := 42) hx hb hts hiX6 hown hK hP 0 rfl rfl 19 (by decide) kf111 (fun _ h9 => h9) rfl dX6_next_87 ?_
  refine va_iald (D := G.1) hx hb hK hP 1 0 rfl rfl (i := 36) (gIn (by decide)) dX6_next_90 ?_
  refine lv_topi (fun v_11 ev_11 => ?_)
  have ev_11 : v_11 = 51 := ev_11.trans (by decide)
  subst ev_11
  refine lv_istore_n (lv' := [(1, .int 51), (0, .ref h0)]) hx hb dX6_next_91 rfl hl (by decide) rfl (fun ls hl => ?_)
  refine lv_iload_n hx hb dX6_next_92 rfl (lv_at hl 0 rfl) ?_
  refine lv_bipush (v := 97) hx hb dX6_next_93 (by decide) ?_
  refine lv_bipush (v := 122) hx hb dX6_next_95 (by decide) ?_
  have hPc : va_P G.1 vwCl [] H := hP.sub [] rfl
  have hDc : va_D A [] := hD.sub [] (by decide) rfl
  have hFc := va_free (wc := []) hD hS hA [] rfl
  refine va_calli (va_runS (As := [.int 51, .int 97, .int 122]) (rest := []) ⟨hx, hb, hml, hown, hts⟩ (c_X6_in_z55 l G H.size) (va_cwS 3 hts gX6_next_X6_in rfl rfl rfl (by decide +kernel) ⟨Nat.le_of_ble_eq_true rfl, Nat.le_of_ble_eq_true rfl⟩) ⟨gPre_blind, fun U hU hW => gPre_of hU hW hK hPc hDc⟩ rfl rfl hl.1 rfl (lv_room (Nat.le_of_ble_eq_true rfl)) dX6_next_97 ⟨Nat.le_of_ble_eq_true rfl, Nat.le_of_ble_eq_true rfl⟩) hS (fun q _ h => hFc q h) hFc (fun r_12 u t H locs ht hvm w_13 hB hz1 hk1 hS => ?_)
  obtain ⟨hP1, hK1, hD1⟩ := hB
  rw [ht] at hP1
  have hP1 : va_P G.1 vwCl [] H := hP1
  have hD1 : va_D (va_A [] _) [] := hD1
  have w_13 : r_12 = 0 := w_13
  obtain ⟨hP, hD⟩ := va_join (wr := [(h0, .inr (6, [.int 0, .ref kd, .ref mo, .ref st, .int 0, .ref ro, .ref tp, .int 40, .ref cd, .ref sr, .int 0, .int 0, .int 0, .ref ir, .ref ih, .ref ss, .ref sq, .ref ce, .ref lw, .int 36, .int 36, .int 0, .int 0, .ref wo, .ref he, .int 0, .int 0, .int 4, .ref sk, .ref na, .ref kp, .int 0, .int 0, .int 0, .int 0, .ref gb, .ref go, .ref fa, .ref ga, .int 0, .int 0, .ref vo])), (tp, .inl (G.2.1, 160, .inl (gPf tB 40))), (wo, .inl (G.2.1, 96, .inl (gPf tW 96)))]) (w1 := []) hP hD [] [0, 1, 2] rfl rfl (by decide) (by decide) hk1 hFc hP1 hD1
  have hP : va_P G.1 vwCl [(h0, .inr (6, [.int 0, .ref kd, .ref mo, .ref st, .int 0, .ref ro, .ref tp, .int 40, .ref cd, .ref sr, .int 0, .int 0, .int 0, .ref ir, .ref ih, .ref ss, .ref sq, .ref ce, .ref lw, .int 36, .int 36, .int 0, .int 0, .ref wo, .ref he, .int 0, .int 0, .int 4, .ref sk, .ref na, .ref kp, .int 0, .int 0, .int 0, .int 0, .ref gb, .ref go, .ref fa, .ref ga, .int 0, .int 0, .ref vo])), (tp, .inl (G.2.1, 160, .inl (gPf tB 40))), (wo, .inl (G.2.1, 96, .inl (gPf tW 96)))] H := hP
  have hD : va_D A [(h0, .inr (6, [.int 0, .ref kd, .ref mo, .ref st, .int 0, .ref ro, .ref tp, .int 40, .ref cd, .ref sr, .int 0, .int 0, .int 0, .ref ir, .ref ih, .ref ss, .ref sq, .ref ce, .ref lw, .int 36, .int 36, .int 0, .int 0, .ref wo, .ref he, .int 0, .int 0, .int 4, .ref sk, .ref na, .ref kp, .int 0, .int 0, .int 0, .int 0, .ref gb, .ref go, .ref fa, .ref ga, .int 0, .int 0, .ref vo])), (tp, .inl (G.2.1, 160, .inl (gPf tB 40))), (wo, .inl (G.2.1, 96, .inl (gPf tW 96)))] := hD
  have w_13 : r_12 = 0 := w_13
  subst w_13
  refine lv_if_eq (tgt := 217) hx hb dX6_next_100 (by decide) (fun c_14 => ?_) (fun c_14 => ?_)
  rotate_left
  · exact absurd (by decide) c_14
  refine lv_iload_n hx hb dX6_next_217 rfl (lv_at hl 0 rfl) ?_
  refine lv_bipush (v := 48) hx hb dX6_next_218 (by decide) ?_
  refine lv_bipush (v := 57) hx hb dX6_next_220 (by decide) ?_
  have hPc : va_P G.1 vwCl [] H := hP.sub [] rfl
  have hDc : va_D A [] := hD.sub [] (by decide) rfl
  have hFc := va_free (wc := []) hD hS hA [] rfl
  refine va_calli (va_runS (As := [.int 51, .int 48, .int 57]) (rest := []) ⟨hx, hb, hml, hown, hts⟩ (c_X6_in_z56 l G H.size) (va_cwS 3 hts gX6_next_X6_in rfl rfl rfl (by decide +kernel) ⟨Nat.le_of_ble_eq_true rfl, Nat.le_of_ble_eq_true rfl⟩) ⟨gPre_blind, fun U hU hW => gPre_of hU hW hK hPc hDc⟩ rfl rfl hl.1 rfl (lv_room (Nat.le_of_ble_eq_true rfl)) dX6_next_222 ⟨Nat.le_of_ble_eq_true rfl, Nat.le_of_ble_eq_true rfl⟩) hS (fun q _ h => hFc q h) hFc (fun r_15 u t H locs ht hvm w_16 hB hz1 hk1 hS => ?_)
  obtain ⟨hP1, hK1, hD1⟩ := hB
  rw [ht] at hP1
  have hP1 : va_P G.1 vwCl [] H := hP1
  have hD1 : va_D (va_A [] _) [] := hD1
  have w_16 : r_15 = 1 := w_16
  obtain ⟨hP, hD⟩ := va_join (wr := [(h0, .inr (6, [.int 0, .ref kd, .ref mo, .ref st, .int 0, .ref ro, .ref tp, .int 40, .ref cd, .ref sr, .int 0, .int 0, .int 0, .ref ir, .ref ih, .ref ss, .ref sq, .ref ce, .ref lw, .int 36, .int 36, .int 0, .int 0, .ref wo, .ref he, .int 0, .int 0, .int 4, .ref sk, .ref na, .ref kp, .int 0, .int 0, .int 0, .int 0, .ref gb, .ref go, .ref fa, .ref ga, .int 0, .int 0, .ref vo])), (tp, .inl (G.2.1, 160, .inl (gPf tB 40))), (wo, .inl (G.2.1, 96, .inl (gPf tW 96)))]) (w1 := []) hP hD [] [0, 1, 2] rfl rfl (by decide) (by decide) hk1 hFc hP1 hD1
  have hP : va_P G.1 vwCl [(h0, .inr (6, [.int 0, .ref kd, .ref mo, .ref st, .int 0, .ref ro, .ref tp, .int 40, .ref cd, .ref sr, .int 0, .int 0, .int 0, .ref ir, .ref ih, .ref ss, .ref sq, .ref ce, .ref lw, .int 36, .int 36, .int 0, .int 0, .ref wo, .ref he, .int 0, .int 0, .int 4, .ref sk, .ref na, .ref kp, .int 0, .int 0, .int 0, .int 0, .ref gb, .ref go, .ref fa, .ref ga, .int 0, .int 0, .ref vo])), (tp, .inl (G.2.1, 160, .inl (gPf tB 40))), (wo, .inl (G.2.1, 96, .inl (gPf tW 96)))] H := hP
  have hD : va_D A [(h0, .inr (6, [.int 0, .ref kd, .ref mo, .ref st, .int 0, .ref ro, .ref tp, .int 40, .ref cd, .ref sr, .int 0, .int 0, .int 0, .ref ir, .ref ih, .ref ss, .ref sq, .ref ce, .ref lw, .int 36, .int 36, .int 0, .int 0, .ref wo, .ref he, .int 0, .int 0, .int 4, .ref sk, .ref na, .ref kp, .int 0, .int 0, .int 0, .int 0, .ref gb, .ref go, .ref fa, .ref ga, .int 0, .int 0, .ref vo])), (tp, .inl (G.2.1, 160, .inl (gPf tB 40))), (wo, .inl (G.2.1, 96, .inl (gPf tW 96)))] := hD
  have w_16 : r_15 = 1 := w_16
  subst w_16
  refine lv_if_eq (tgt := 326) hx hb dX6_next_225 (by decide) (fun c_17 => ?_) (fun c_17 => ?_)
  · exact absurd c_17 (by decide)
  refine lv_iconst (v := 0) hx hb dX6_next_228 (by decide) ?_
  refine lv_istore_n (lv' := [(2, .int 0), (1, .int 51), (0, .ref h0)]) hx hb dX6_next_229 rfl hl (by decide) rfl (fun ls hl => ?_)
  refine lv_aload_n hx hb dX6_next_230 rfl (lv_at hl 2 rfl) ?_
  refine va_get (D := G.1) (ci := 6) (v := .int 36) (C := RX6) (T := TX6) (N := 42) hx hb hts hiX6 hown hK hP 0 rfl rfl 19 (by decide) kf111 (fun _ h9 => h9) rfl dX6_next_231 ?_
  refine lv_aload_n hx hb dX6_next_234 rfl (lv_at hl 2 rfl) ?_
  refine va_get (D := G.1) (ci := 6) (v := .int 40) (C := RX6) (T := TX6) (N := 42) hx hb hts hiX6 hown hK hP 0 rfl rfl 7 (by decide) kf80 (fun _ h9 => h9) rfl dX6_next_235 ?_
  refine lv_icmp_ge (tgt := 309) hx hb dX6_next_238 (by decide) (fun c_18 => ?_) (fun c_18 => ?_)
  · exact absurd c_18 (by decide)
  refine lv_aload_n hx hb dX6_next_241 rfl (lv_at hl 2 rfl) ?_
  refine va_get (D := G.1) (ci := 6) (v := .ref tp) (C := RX6) (T := TX6) (N := 42) hx hb hts hiX6 hown hK hP 0 rfl rfl 6 (by decide) kf22 (fun _ h9 => h9) rfl dX6_next_242 ?_
  refine lv_aload_n hx hb dX6_next_245 rfl (lv_at hl 2 rfl) ?_
  refine va_get (D := G.1) (ci := 6) (v := .int 36) (C := RX6) (T := TX6) (N := 42) hx hb hts hiX6 hown hK hP 0 rfl rfl 19 (by decide) kf111 (fun _ h9 => h9) rfl dX6_next_246 ?_
  refine va_iald (D := G.1) hx hb hK hP 1 0 rfl rfl (i := 36) (gIn (by decide)) dX6_next_249 ?_
  refine lv_topi (fun v_19 ev_19 => ?_)
  have ev_19 : v_19 = 51 := ev_19.trans (by decide)
  subst ev_19
  refine lv_bipush (v := 48) hx hb dX6_next_250 (by decide) ?_
  refine lv_bipush (v := 57) hx hb dX6_next_252 (by decide) ?_
  have hPc : va_P G.1 vwCl [] H := hP.sub [] rfl
  have hDc : va_D A [] := hD.sub [] (by decide) rfl
  have hFc := va_free (wc := []) hD hS hA [] rfl
  refine va_calli (va_runS (As := [.int 51, .int 48, .int 57]) (rest := []) ⟨hx, hb, hml, hown, hts⟩ (c_X6_in_z56 l G H.size) (va_cwS 3 hts gX6_next_X6_in rfl rfl rfl (by decide +kernel) ⟨Nat.le_of_ble_eq_true rfl, Nat.le_of_ble_eq_true rfl⟩) ⟨gPre_blind, fun U hU hW => gPre_of hU hW hK hPc hDc⟩ rfl rfl hl.1 rfl (lv_room (Nat.le_of_ble_eq_true rfl)) dX6_next_254 ⟨Nat.le_of_ble_eq_true rfl, Nat.le_of_ble_eq_true rfl⟩) hS (fun q _ h => hFc q h) hFc (fun r_20 u t H locs ht hvm w_21 hB hz1 hk1 hS => ?_)
  obtain ⟨hP1, hK1, hD1⟩ := hB
  rw [ht] at hP1
  have hP1 : va_P G.1 vwCl [] H := hP1
  have hD1 : va_D (va_A [] _) [] := hD1
  have w_21 : r_20 = 1 := w_21
  obtain ⟨hP, hD⟩ := va_join (wr := [(h0, .inr (6, [.int 0, .ref kd, .ref mo, .ref st, .int 0, .ref ro, .ref tp, .int 40, .ref cd, .ref sr, .int 0, .int 0, .int 0, .ref ir, .ref ih, .ref ss, .ref sq, .ref ce, .ref lw, .int 36, .int 36, .int 0, .int 0, .ref wo, .ref he, .int 0, .int 0, .int 4, .ref sk, .ref na, .ref kp, .int 0, .int 0, .int 0, .int 0, .ref gb, .ref go, .ref fa, .ref ga, .int 0, .int 0, .ref vo])), (tp, .inl (G.2.1, 160, .inl (gPf tB 40))), (wo, .inl (G.2.1, 96, .inl (gPf tW 96)))]) (w1 := []) hP hD [] [0, 1, 2] rfl rfl (by decide) (by decide) hk1 hFc hP1 hD1
  have hP : va_P G.1 vwCl [(h0, .inr (6, [.int 0, .ref kd, .ref mo, .ref st, .int 0, .ref ro, .ref tp, .int 40, .ref cd, .ref sr, .int 0, .int 0, .int 0, .ref ir, .ref ih, .ref ss, .ref sq, .ref ce, .ref lw, .int 36, .int 36, .int 0, .int 0, .ref wo, .ref he, .int 0, .int 0, .int 4, .ref sk, .ref na, .ref kp, .int 0, .int 0, .int 0, .int 0, .ref gb, .ref go, .ref fa, .ref ga, .int 0, .int 0, .ref vo])), (tp, .inl (G.2.1, 160, .inl (gPf tB 40))), (wo, .inl (G.2.1, 96, .inl (gPf tW 96)))] H := hP
  have hD : va_D A [(h0, .inr (6, [.int 0, .ref kd, .ref mo, .ref st, .int 0, .ref ro, .ref tp, .int 40, .ref cd, .ref sr, .int 0, .int 0, .int 0, .ref ir, .ref ih, .ref ss, .ref sq, .ref ce, .ref lw, .int 36, .int 36, .int 0, .int 0, .ref wo, .ref he, .int 0, .int 0, .int 4, .ref sk, .ref na, .ref kp, .int 0, .int 0, .int 0, .int 0, .ref gb, .ref go, .ref fa, .ref ga, .int 0, .int 0, .ref vo])), (tp, .inl (G.2.1, 160, .inl (gPf tB 40))), (wo, .inl (G.2.1, 96, .inl (gPf tW 96)))] := hD
  have w_21 : r_20 = 1 := w_21
  subst w_21
  refine lv_if_eq (tgt := 309) hx hb dX6_next_257 (by decide) (fun c_22 => ?_) (fun c_22 => ?_)
  · exact absurd c_22 (by decide)
  refine lv_aload_n hx hb dX6_next_260 rfl (lv_at hl 2 rfl) ?_
  refine lv_iload_n hx hb dX6_next_261 rfl (lv_at hl 0 rfl) ?_
  refine lv_iconst (v := 4) hx hb dX6_next_262 (by decide) ?_
  refine lv_icmp_ge (tgt := 289) hx hb dX6_next_263 (by decide) (fun c_23 => ?_) (fun c_23 => ?_)
  · exact absurd c_23 (by decide)
  refine lv_bipush (v := 10) hx hb dX6_next_266 (by decide) ?_
  refine lv_aload_n hx hb dX6_next_268 rfl (lv_at hl 2 rfl) ?_
  refine va_get (D := G.1) (ci := 6) (v := .int 0) (C := RX6) (T := TX6) (N := 42) hx hb hts hiX6 hown hK hP 0 rfl rfl 22 (by decide) kf120 (fun _ h9 => h9) rfl dX6_next_269 ?_
  refine lv_imul hx hb dX6_next_272 ?_
  refine lv_topi (fun v_24 ev_24 => ?_)
  have ev_24 : v_24 = 0 := ev_24.trans (by decide)
  subst ev_24
  refine lv_aload_n hx hb dX6_next_273 rfl (lv_at hl 2 rfl) ?_
  refine va_get (D := G.1) (ci := 6) (v := .ref tp) (C := RX6) (T := TX6) (N := 42) hx hb hts hiX6 hown hK hP 0 rfl rfl 6 (by decide) kf22 (fun _ h9 => h9) rfl dX6_next_274 ?_
  refine lv_aload_n hx hb dX6_next_277 rfl (lv_at hl 2 rfl) ?_
  refine va_get (D := G.1) (ci := 6) (v := .int 36) (C := RX6) (T := TX6) (N := 42) hx hb hts hiX6 hown hK hP 0 rfl rfl 19 (by decide) kf111 (fun _ h9 => h9) rfl dX6_next_278 ?_
  refine va_iald (D := G.1) hx hb hK hP 1 0 rfl rfl (i := 36) (gIn (by decide)) dX6_next_281 ?_
  refine lv_topi (fun v_25 ev_25 => ?_)
  have ev_25 : v_25 = 51 := ev_25.trans (by decide)
  subst ev_25
  refine lv_iadd hx hb dX6_next_282 ?_
  refine lv_topi (fun v_26 ev_26 => ?_)
  have ev_26 : v_26 = 51 := ev_26.trans (by decide)
  subst ev_26
  refine lv_bipush (v := 48) hx hb dX6_next_283 (by decide) ?_
  refine lv_isub hx hb dX6_next_285 ?_
  refine lv_topi (fun v_27 ev_27 => ?_)
  have ev_27 : v_27 = 3 := ev_27.trans (by decide)
  subst ev_27
  refine lv_goto (tgt := 290) hx hb dX6_next_286 (by decide) ?_
  refine va_put (D := G.1) (ci := 6) (v := .int 3) (ty := .int) (C := RX6) (T := TX6) (N := 42) hx hb hts hiX6 tyX6 tyX6_ok nmX6 hown hK hP hD hS 0 rfl rfl 22 (by decide) kf120 (fun _ h9 => h9) rfl (by decide +kernel) rfl rfl (Nat.le_of_ble_eq_true rfl) dX6_next_290 (fun H locs hP hD hS => ?_)
  have hP : va_P G.1 vwCl [(h0, .inr (6, [.int 0, .ref kd, .ref mo, .ref st, .int 0, .ref ro, .ref tp, .int 40, .ref cd, .ref sr, .int 0, .int 0, .int 0, .ref ir, .ref ih, .ref ss, .ref sq, .ref ce, .ref lw, .int 36, .int 36, .int 0, .int 3, .ref wo, .ref he, .int 0, .int 0, .int 4, .ref sk, .ref na, .ref kp, .int 0, .int 0, .int 0, .int 0, .ref gb, .ref go, .ref fa, .ref ga, .int 0, .int 0, .ref vo])), (tp, .inl (G.2.1, 160, .inl (gPf tB 40))), (wo, .inl (G.2.1, 96, .inl (gPf tW 96)))] H := hP
  have hD : va_D A [(h0, .inr (6, [.int 0, .ref kd, .ref mo, .ref st, .int 0, .ref ro, .ref tp, .int 40, .ref cd, .ref sr, .int 0, .int 0, .int 0, .ref ir, .ref ih, .ref ss, .ref sq, .ref ce, .ref lw, .int 36, .int 36, .int 0, .int 3, .ref wo, .ref he, .int 0, .int 0, .int 4, .ref sk, .ref na, .ref kp, .int 0, .int 0, .int 0, .int 0, .ref gb, .ref go, .ref fa, .ref ga, .int 0, .int 0, .ref vo])), (tp, .inl (G.2.1, 160, .inl (gPf tB 40))), (wo, .inl (G.2.1, 96, .inl (gPf tW 96)))] := hD
  refine lv_iinc (v := 1) (lv' := [(2, .int 1), (1, .int 51), (0, .ref h0)]) hx hb dX6_next_293 hl (k := 0) rfl (by decide) (by decide) rfl (fun ls hl => ?_)
  refine lv_aload_n hx hb dX6_next_296 rfl (lv_at hl 2 rfl) ?_
  refine lv_dup hx hb dX6_next_297 rfl ?_
  refine va_get (D := G.1) (ci := 6) (v := .int 36) (C := RX6) (T := TX6) (N := 42) hx hb hts hiX6 hown hK hP 0 rfl rfl 19 (by decide) kf111 (fun _ h9 => h9) rfl dX6_next_298 ?_
  refine lv_iconst (v := 1) hx hb dX6_next_301 (by decide) ?_
  refine lv_iadd hx hb dX6_next_302 ?_
  refine lv_topi (fun v_28 ev_28 => ?_)
  have ev_28 : v_28 = 37 := ev_28.trans (by decide)
  subst ev_28
  refine va_put (D := G.1) (ci := 6) (v := .int 37) (ty := .int) (C := RX6) (T := TX6) (N := 42) hx hb hts hiX6 tyX6 tyX6_ok nmX6 hown hK hP hD hS 0 rfl rfl 19 (by decide) kf111 (fun _ h9 => h9) rfl (by decide +kernel) rfl rfl (Nat.le_of_ble_eq_true rfl) dX6_next_303 (fun H locs hP hD hS => ?_)
  have hP : va_P G.1 vwCl [(h0, .inr (6, [.int 0, .ref kd, .ref mo, .ref st, .int 0, .ref ro, .ref tp, .int 40, .ref cd, .ref sr, .int 0, .int 0, .int 0, .ref ir, .ref ih, .ref ss, .ref sq, .ref ce, .ref lw, .int 37, .int 36, .int 0, .int 3, .ref wo, .ref he, .int 0, .int 0, .int 4, .ref sk, .ref na, .ref kp, .int 0, .int 0, .int 0, .int 0, .ref gb, .ref go, .ref fa, .ref ga, .int 0, .int 0, .ref vo])), (tp, .inl (G.2.1, 160, .inl (gPf tB 40))), (wo, .inl (G.2.1, 96, .inl (gPf tW 96)))] H := hP
  have hD : va_D A [(h0, .inr (6, [.int 0, .ref kd, .ref mo, .ref st, .int 0, .ref ro, .ref tp, .int 40, .ref cd, .ref sr, .int 0, .int 0, .int 0, .ref ir, .ref ih, .ref ss, .ref sq, .ref ce, .ref lw, .int 37, .int 36, .int 0, .int 3, .ref wo, .ref he, .int 0, .int 0, .int 4, .ref sk, .ref na, .ref kp, .int 0, .int 0, .int 0, .int 0, .ref gb, .ref go, .ref fa, .ref ga, .int 0, .int 0, .ref vo])), (tp, .inl (G.2.1, 160, .inl (gPf tB 40))), (wo, .inl (G.2.1, 96, .inl (gPf tW 96)))] := hD
  refine lv_goto (tgt := 230) hx hb dX6_next_306 (by decide) ?_
  refine lv_aload_n hx hb dX6_next_230 rfl (lv_at hl 2 rfl) ?_
  refine va_get (D := G.1) (ci := 6) (v := .int 37) (C := RX6) (T := TX6) (N := 42) hx hb hts hiX6 hown hK hP 0 rfl rfl 19 (by decide) kf111 (fun _ h9 => h9) rfl dX6_next_231 ?_
  refine lv_aload_n hx hb dX6_next_234 rfl (lv_at hl 2 rfl) ?_
  refine va_get (D := G.1) (ci := 6) (v := .int 40) (C := RX6) (T := TX6) (N := 42) hx hb hts hiX6 hown hK hP 0 rfl rfl 7 (by decide) kf80 (fun _ h9 => h9) rfl dX6_next_235 ?_
  refine lv_icmp_ge (tgt := 309) hx hb dX6_next_238 (by decide) (fun c_29 => ?_) (fun c_29 => ?_)
  · exact absurd c_29 (by decide)
  refine lv_aload_n hx hb dX6_next_241 rfl (lv_at hl 2 rfl) ?_
  refine va_get (D := G.1) (ci := 6) (v := .ref tp) (C := RX6) (T := TX6) (N := 42) hx hb hts hiX6 hown hK hP 0 rfl rfl 6 (by decide) kf22 (fun _ h9 => h9) rfl dX6_next_242 ?_
  refine lv_aload_n hx hb dX6_next_245 rfl (lv_at hl 2 rfl) ?_
  refine va_get (D := G.1) (ci := 6) (v := .int 37) (C := RX6) (T := TX6) (N := 42) hx hb hts hiX6 hown hK hP 0 rfl rfl 19 (by decide) kf111 (fun _ h9 => h9) rfl dX6_next_246 ?_
  refine va_iald (D := G.1) hx hb hK hP 1 0 rfl rfl (i := 37) (gIn (by decide)) dX6_next_249 ?_
  refine lv_topi (fun v_30 ev_30 => ?_)
  have ev_30 : v_30 = 48 := ev_30.trans (by decide)
  subst ev_30
  refine lv_bipush (v := 48) hx hb dX6_next_250 (by decide) ?_
  refine lv_bipush (v := 57) hx hb dX6_next_252 (by decide) ?_
  have hPc : va_P G.1 vwCl [] H := hP.sub [] rfl
  have hDc : va_D A [] := hD.sub [] (by decide) rfl
  have hFc := va_free (wc := []) hD hS hA [] rfl
  refine va_calli (va_runS (As := [.int 48, .int 48, .int 57]) (rest := []) ⟨hx, hb, hml, hown, hts⟩ (c_X6_in_z57 l G H.size) (va_cwS 3 hts gX6_next_X6_in rfl rfl rfl (by decide +kernel) ⟨Nat.le_of_ble_eq_true rfl, Nat.le_of_ble_eq_true rfl⟩) ⟨gPre_blind, fun U hU hW => gPre_of hU hW hK hPc hDc⟩ rfl rfl hl.1 rfl (lv_room (Nat.le_of_ble_eq_true rfl)) dX6_next_254 ⟨Nat.le_of_ble_eq_true rfl, Nat.le_of_ble_eq_true rfl⟩) hS (fun q _ h => hFc q h) hFc (fun r_31 u t H locs ht hvm w_32 hB hz1 hk1 hS => ?_)
  obtain ⟨hP1, hK1, hD1⟩ := hB
  rw [ht] at hP1
  have hP1 : va_P G.1 vwCl [] H := hP1
  have hD1 : va_D (va_A [] _) [] := hD1
  have w_32 : r_31 = 1 := w_32
  obtain ⟨hP, hD⟩ := va_join (wr := [(h0, .inr (6, [.int 0, .ref kd, .ref mo, .ref st, .int 0, .ref ro, .ref tp, .int 40, .ref cd, .ref sr, .int 0, .int 0, .int 0, .ref ir, .ref ih, .ref ss, .ref sq, .ref ce, .ref lw, .int 37, .int 36, .int 0, .int 3, .ref wo, .ref he, .int 0, .int 0, .int 4, .ref sk, .ref na, .ref kp, .int 0, .int 0, .int 0, .int 0, .ref gb, .ref go, .ref fa, .ref ga, .int 0, .int 0, .ref vo])), (tp, .inl (G.2.1, 160, .inl (gPf tB 40))), (wo, .inl (G.2.1, 96, .inl (gPf tW 96)))]) (w1 := []) hP hD [] [0, 1, 2] rfl rfl (by decide) (by decide) hk1 hFc hP1 hD1
  have hP : va_P G.1 vwCl [(h0, .inr (6, [.int 0, .ref kd, .ref mo, .ref st, .int 0, .ref ro, .ref tp, .int 40, .ref cd, .ref sr, .int 0, .int 0, .int 0, .ref ir, .ref ih, .ref ss, .ref sq, .ref ce, .ref lw, .int 37, .int 36, .int 0, .int 3, .ref wo, .ref he, .int 0, .int 0, .int 4, .ref sk, .ref na, .ref kp, .int 0, .int 0, .int 0, .int 0, .ref gb, .ref go, .ref fa, .ref ga, .int 0, .int 0, .ref vo])), (tp, .inl (G.2.1, 160, .inl (gPf tB 40))), (wo, .inl (G.2.1, 96, .inl (gPf tW 96)))] H := hP
  have hD : va_D A [(h0, .inr (6, [.int 0, .ref kd, .ref mo, .ref st, .int 0, .ref ro, .ref tp, .int 40, .ref cd, .ref sr, .int 0, .int 0, .int 0, .ref ir, .ref ih, .ref ss, .ref sq, .ref ce, .ref lw, .int 37, .int 36, .int 0, .int 3, .ref wo, .ref he, .int 0, .int 0, .int 4, .ref sk, .ref na, .ref kp, .int 0, .int 0, .int 0, .int 0, .ref gb, .ref go, .ref fa, .ref ga, .int 0, .int 0, .ref vo])), (tp, .inl (G.2.1, 160, .inl (gPf tB 40))), (wo, .inl (G.2.1, 96, .inl (gPf tW 96)))] := hD
  have w_32 : r_31 = 1 := w_32
  subst w_32
  refine lv_if_eq (tgt := 309) hx hb dX6_next_257 (by decide) (fun c_33 => ?_) (fun c_33 => ?_)
  · exact absurd c_33 (by decide)
  refine lv_aload_n hx hb dX6_next_260 rfl (lv_at hl 2 rfl) ?_
  refine lv_iload_n hx hb dX6_next_261 rfl (lv_at hl 0 rfl) ?_
  refine lv_iconst (v := 4) hx hb dX6_next_262 (by decide) ?_
  refine lv_icmp_ge (tgt := 289) hx hb dX6_next_263 (by decide) (fun c_34 => ?_) (fun c_34 => ?_)
  · exact absurd c_34 (by decide)
  refine lv_bipush (v := 10) hx hb dX6_next_266 (by decide) ?_
  refine lv_aload_n hx hb dX6_next_268 rfl (lv_at hl 2 rfl) ?_
  refine va_get (D := G.1) (ci := 6) (v := .int 3) (C := RX6) (T := TX6) (N := 42) hx hb hts hiX6 hown hK hP 0 rfl rfl 22 (by decide) kf120 (fun _ h9 => h9) rfl dX6_next_269 ?_
  refine lv_imul hx hb dX6_next_272 ?_
  refine lv_topi (fun v_35 ev_35 => ?_)
  have ev_35 : v_35 = 30 := ev_35.trans (by decide)
  subst ev_35
  refine lv_aload_n hx hb dX6_next_273 rfl (lv_at hl 2 rfl) ?_
  refine va_get (D := G.1) (ci := 6) (v := .ref tp) (C := RX6) (T := TX6) (N := 42) hx hb hts hiX6 hown hK hP 0 rfl rfl 6 (by decide) kf22 (fun _ h9 => h9) rfl dX6_next_274 ?_
  refine lv_aload_n hx hb dX6_next_277 rfl (lv_at hl 2 rfl) ?_
  refine va_get (D := G.1) (ci := 6) (v := .int 37) (C := RX6) (T := TX6) (N := 42) hx hb hts hiX6 hown hK hP 0 rfl rfl 19 (by decide) kf111 (fun _ h9 => h9) rfl dX6_next_278 ?_
  refine va_iald (D := G.1) hx hb hK hP 1 0 rfl rfl (i := 37) (gIn (by decide)) dX6_next_281 ?_
  refine lv_topi (fun v_36 ev_36 => ?_)
  have ev_36 : v_36 = 48 := ev_36.trans (by decide)
  subst ev_36
  refine lv_iadd hx hb dX6_next_282 ?_
  refine lv_topi (fun v_37 ev_37 => ?_)
  have ev_37 : v_37 = 78 := ev_37.trans (by decide)
  subst ev_37
  refine lv_bipush (v := 48) hx hb dX6_next_283 (by decide) ?_
  refine lv_isub hx hb dX6_next_285 ?_
  refine lv_topi (fun v_38 ev_38 => ?_)
  have ev_38 : v_38 = 30 := ev_38.trans (by decide)
  subst ev_38
  refine lv_goto (tgt := 290) hx hb dX6_next_286 (by decide) ?_
  refine va_put (D := G.1) (ci := 6) (v := .int 30) (ty := .int) (C := RX6) (T := TX6) (N := 42) hx hb hts hiX6 tyX6 tyX6_ok nmX6 hown hK hP hD hS 0 rfl rfl 22 (by decide) kf120 (fun _ h9 => h9) rfl (by decide +kernel) rfl rfl (Nat.le_of_ble_eq_true rfl) dX6_next_290 (fun H locs hP hD hS => ?_)
  have hP : va_P G.1 vwCl [(h0, .inr (6, [.int 0, .ref kd, .ref mo, .ref st, .int 0, .ref ro, .ref tp, .int 40, .ref cd, .ref sr, .int 0, .int 0, .int 0, .ref ir, .ref ih, .ref ss, .ref sq, .ref ce, .ref lw, .int 37, .int 36, .int 0, .int 30, .ref wo, .ref he, .int 0, .int 0, .int 4, .ref sk, .ref na, .ref kp, .int 0, .int 0, .int 0, .int 0, .ref gb, .ref go, .ref fa, .ref ga, .int 0, .int 0, .ref vo])), (tp, .inl (G.2.1, 160, .inl (gPf tB 40))), (wo, .inl (G.2.1, 96, .inl (gPf tW 96)))] H := hP
  have hD : va_D A [(h0, .inr (6, [.int 0, .ref kd, .ref mo, .ref st, .int 0, .ref ro, .ref tp, .int 40, .ref cd, .ref sr, .int 0, .int 0, .int 0, .ref ir, .ref ih, .ref ss, .ref sq, .ref ce, .ref lw, .int 37, .int 36, .int 0, .int 30, .ref wo, .ref he, .int 0, .int 0, .int 4, .ref sk, .ref na, .ref kp, .int 0, .int 0, .int 0, .int 0, .ref gb, .ref go, .ref fa, .ref ga, .int 0, .int 0, .ref vo])), (tp, .inl (G.2.1, 160, .inl (gPf tB 40))), (wo, .inl (G.2.1, 96, .inl (gPf tW 96)))] := hD
  refine lv_iinc (v := 2) (lv' := [(2, .int 2), (1, .int 51), (0, .ref h0)]) hx hb dX6_next_293 hl (k := 0) rfl (by decide) (by decide) rfl (fun ls hl => ?_)
  refine lv_aload_n hx hb dX6_next_296 rfl (lv_at hl 2 rfl) ?_
  refine lv_dup hx hb dX6_next_297 rfl ?_
  refine va_get (D := G.1) (ci := 6) (v := .int 37) (C := RX6) (T := TX6) (N := 42) hx hb hts hiX6 hown hK hP 0 rfl rfl 19 (by decide) kf111 (fun _ h9 => h9) rfl dX6_next_298 ?_
  refine lv_iconst (v := 1) hx hb dX6_next_301 (by decide) ?_
  refine lv_iadd hx hb dX6_next_302 ?_
  refine lv_topi (fun v_39 ev_39 => ?_)
  have ev_39 : v_39 = 38 := ev_39.trans (by decide)
  subst ev_39
  refine va_put (D := G.1) (ci := 6) (v := .int 38) (ty := .int) (C := RX6) (T := TX6) (N := 42) hx hb hts hiX6 tyX6 tyX6_ok nmX6 hown hK hP hD hS 0 rfl rfl 19 (by decide) kf111 (fun _ h9 => h9) rfl (by decide +kernel) rfl rfl (Nat.le_of_ble_eq_true rfl) dX6_next_303 (fun H locs hP hD hS => ?_)
  have hP : va_P G.1 vwCl [(h0, .inr (6, [.int 0, .ref kd, .ref mo, .ref st, .int 0, .ref ro, .ref tp, .int 40, .ref cd, .ref sr, .int 0, .int 0, .int 0, .ref ir, .ref ih, .ref ss, .ref sq, .ref ce, .ref lw, .int 38, .int 36, .int 0, .int 30, .ref wo, .ref he, .int 0, .int 0, .int 4, .ref sk, .ref na, .ref kp, .int 0, .int 0, .int 0, .int 0, .ref gb, .ref go, .ref fa, .ref ga, .int 0, .int 0, .ref vo])), (tp, .inl (G.2.1, 160, .inl (gPf tB 40))), (wo, .inl (G.2.1, 96, .inl (gPf tW 96)))] H := hP
  have hD : va_D A [(h0, .inr (6, [.int 0, .ref kd, .ref mo, .ref st, .int 0, .ref ro, .ref tp, .int 40, .ref cd, .ref sr, .int 0, .int 0, .int 0, .ref ir, .ref ih, .ref ss, .ref sq, .ref ce, .ref lw, .int 38, .int 36, .int 0, .int 30, .ref wo, .ref he, .int 0, .int 0, .int 4, .ref sk, .ref na, .ref kp, .int 0, .int 0, .int 0, .int 0, .ref gb, .ref go, .ref fa, .ref ga, .int 0, .int 0, .ref vo])), (tp, .inl (G.2.1, 160, .inl (gPf tB 40))), (wo, .inl (G.2.1, 96, .inl (gPf tW 96)))] := hD
  refine lv_goto (tgt := 230) hx hb dX6_next_306 (by decide) ?_
  refine lv_aload_n hx hb dX6_next_230 rfl (lv_at hl 2 rfl) ?_
  refine va_get (D := G.1) (ci := 6) (v := .int 38) (C := RX6) (T := TX6) (N := 42) hx hb hts hiX6 hown hK hP 0 rfl rfl 19 (by decide) kf111 (fun _ h9 => h9) rfl dX6_next_231 ?_
  refine lv_aload_n hx hb dX6_next_234 rfl (lv_at hl 2 rfl) ?_
  refine va_get (D := G.1) (ci := 6) (v := .int 40) (C := RX6) (T := TX6) (N := 42) hx hb hts hiX6 hown hK hP 0 rfl rfl 7 (by decide) kf80 (fun _ h9 => h9) rfl dX6_next_235 ?_
  refine lv_icmp_ge (tgt := 309) hx hb dX6_next_238 (by decide) (fun c_40 => ?_) (fun c_40 => ?_)
  · exact absurd c_40 (by decide)
  refine lv_aload_n hx hb dX6_next_241 rfl (lv_at hl 2 rfl) ?_
  refine va_get (D := G.1) (ci := 6) (v := .ref tp) (C := RX6) (T := TX6) (N := 42) hx hb hts hiX6 hown hK hP 0 rfl rfl 6 (by decide) kf22 (fun _ h9 => h9) rfl dX6_next_242 ?_
  refine lv_aload_n hx hb dX6_next_245 rfl (lv_at hl 2 rfl) ?_
  refine va_get (D := G.1) (ci := 6) (v := .int 38) (C := RX6) (T := TX6) (N := 42) hx hb hts hiX6 hown hK hP 0 rfl rfl 19 (by decide) kf111 (fun _ h9 => h9) rfl dX6_next_246 ?_
  refine va_iald (D := G.1) hx hb hK hP 1 0 rfl rfl (i := 38) (gIn (by decide)) dX6_next_249 ?_
  refine lv_topi (fun v_41 ev_41 => ?_)
  have ev_41 : v_41 = 32 := ev_41.trans (by decide)
  subst ev_41
  refine lv_bipush (v := 48) hx hb dX6_next_250 (by decide) ?_
  refine lv_bipush (v := 57) hx hb dX6_next_252 (by decide) ?_
  have hPc : va_P G.1 vwCl [] H := hP.sub [] rfl
  have hDc : va_D A [] := hD.sub [] (by decide) rfl
  have hFc := va_free (wc := []) hD hS hA [] rfl
  refine va_calli (va_runS (As := [.int 32, .int 48, .int 57]) (rest := []) ⟨hx, hb, hml, hown, hts⟩ (c_X6_in_z45 l G H.size) (va_cwS 3 hts gX6_next_X6_in rfl rfl rfl (by decide +kernel) ⟨Nat.le_of_ble_eq_true rfl, Nat.le_of_ble_eq_true rfl⟩) ⟨gPre_blind, fun U hU hW => gPre_of hU hW hK hPc hDc⟩ rfl rfl hl.1 rfl (lv_room (Nat.le_of_ble_eq_true rfl)) dX6_next_254 ⟨Nat.le_of_ble_eq_true rfl, Nat.le_of_ble_eq_true rfl⟩) hS (fun q _ h => hFc q h) hFc (fun r_42 u t H locs ht hvm w_43 hB hz1 hk1 hS => ?_)
  obtain ⟨hP1, hK1, hD1⟩ := hB
  rw [ht] at hP1
  have hP1 : va_P G.1 vwCl [] H := hP1
  have hD1 : va_D (va_A [] _) [] := hD1
  have w_43 : r_42 = 0 := w_43
  obtain ⟨hP, hD⟩ := va_join (wr := [(h0, .inr (6, [.int 0, .ref kd, .ref mo, .ref st, .int 0, .ref ro, .ref tp, .int 40, .ref cd, .ref sr, .int 0, .int 0, .int 0, .ref ir, .ref ih, .ref ss, .ref sq, .ref ce, .ref lw, .int 38, .int 36, .int 0, .int 30, .ref wo, .ref he, .int 0, .int 0, .int 4, .ref sk, .ref na, .ref kp, .int 0, .int 0, .int 0, .int 0, .ref gb, .ref go, .ref fa, .ref ga, .int 0, .int 0, .ref vo])), (tp, .inl (G.2.1, 160, .inl (gPf tB 40))), (wo, .inl (G.2.1, 96, .inl (gPf tW 96)))]) (w1 := []) hP hD [] [0, 1, 2] rfl rfl (by decide) (by decide) hk1 hFc hP1 hD1
  have hP : va_P G.1 vwCl [(h0, .inr (6, [.int 0, .ref kd, .ref mo, .ref st, .int 0, .ref ro, .ref tp, .int 40, .ref cd, .ref sr, .int 0, .int 0, .int 0, .ref ir, .ref ih, .ref ss, .ref sq, .ref ce, .ref lw, .int 38, .int 36, .int 0, .int 30, .ref wo, .ref he, .int 0, .int 0, .int 4, .ref sk, .ref na, .ref kp, .int 0, .int 0, .int 0, .int 0, .ref gb, .ref go, .ref fa, .ref ga, .int 0, .int 0, .ref vo])), (tp, .inl (G.2.1, 160, .inl (gPf tB 40))), (wo, .inl (G.2.1, 96, .inl (gPf tW 96)))] H := hP
  have hD : va_D A [(h0, .inr (6, [.int 0, .ref kd, .ref mo, .ref st, .int 0, .ref ro, .ref tp, .int 40, .ref cd, .ref sr, .int 0, .int 0, .int 0, .ref ir, .ref ih, .ref ss, .ref sq, .ref ce, .ref lw, .int 38, .int 36, .int 0, .int 30, .ref wo, .ref he, .int 0, .int 0, .int 4, .ref sk, .ref na, .ref kp, .int 0, .int 0, .int 0, .int 0, .ref gb, .ref go, .ref fa, .ref ga, .int 0, .int 0, .ref vo])), (tp, .inl (G.2.1, 160, .inl (gPf tB 40))), (wo, .inl (G.2.1, 96, .inl (gPf tW 96)))] := hD
  have w_43 : r_42 = 0 := w_43
  subst w_43
  refine lv_if_eq (tgt := 309) hx hb dX6_next_257 (by decide) (fun c_44 => ?_) (fun c_44 => ?_)
  rotate_left
  · exact absurd (by decide) c_44
  refine lv_aload_n hx hb dX6_next_309 rfl (lv_at hl 2 rfl) ?_
  refine lv_iload_n hx hb dX6_next_310 rfl (lv_at hl 0 rfl) ?_
  refine lv_iconst (v := 4) hx hb dX6_next_311 (by decide) ?_
  refine lv_icmp_le (tgt := 319) hx hb dX6_next_312 (by decide) (fun c_45 => ?_) (fun c_45 => ?_)
  rotate_left
  · exact absurd (by decide) c_45
  refine lv_iconst (v := 1) hx hb dX6_next_319 (by decide) ?_
  refine va_put (D := G.1) (ci := 6) (v := .int 1) (ty := .int) (C := RX6) (T := TX6) (N := 42) hx hb hts hiX6 tyX6 tyX6_ok nmX6 hown hK hP hD hS 0 rfl rfl 21 (by decide) kf117 (fun _ h9 => h9) rfl (by decide +kernel) rfl rfl (Nat.le_of_ble_eq_true rfl) dX6_next_320 (fun H locs hP hD hS => ?_)
  have hP : va_P G.1 vwCl [(h0, .inr (6, [.int 0, .ref kd, .ref mo, .ref st, .int 0, .ref ro, .ref tp, .int 40, .ref cd, .ref sr, .int 0, .int 0, .int 0, .ref ir, .ref ih, .ref ss, .ref sq, .ref ce, .ref lw, .int 38, .int 36, .int 1, .int 30, .ref wo, .ref he, .int 0, .int 0, .int 4, .ref sk, .ref na, .ref kp, .int 0, .int 0, .int 0, .int 0, .ref gb, .ref go, .ref fa, .ref ga, .int 0, .int 0, .ref vo])), (tp, .inl (G.2.1, 160, .inl (gPf tB 40))), (wo, .inl (G.2.1, 96, .inl (gPf tW 96)))] H := hP
  have hD : va_D A [(h0, .inr (6, [.int 0, .ref kd, .ref mo, .ref st, .int 0, .ref ro, .ref tp, .int 40, .ref cd, .ref sr, .int 0, .int 0, .int 0, .ref ir, .ref ih, .ref ss, .ref sq, .ref ce, .ref lw, .int 38, .int 36, .int 1, .int 30, .ref wo, .ref he, .int 0, .int 0, .int 4, .ref sk, .ref na, .ref kp, .int 0, .int 0, .int 0, .int 0, .ref gb, .ref go, .ref fa, .ref ga, .int 0, .int 0, .ref vo])), (tp, .inl (G.2.1, 160, .inl (gPf tB 40))), (wo, .inl (G.2.1, 96, .inl (gPf tW 96)))] := hD
  refine lv_goto (tgt := 403) hx hb dX6_next_323 (by decide) ?_
  have hP9 := hP.sub (ws' := [(h0, .inr (6, [.int 0, .ref kd, .ref mo, .ref st, .int 0, .ref ro, .ref tp, .int 40, .ref cd, .ref sr, .int 0, .int 0, .int 0, .ref ir, .ref ih, .ref ss, .ref sq, .ref ce, .ref lw, .int 38, .int 36, .int 1, .int 30, .ref wo, .ref he, .int 0, .int 0, .int 4, .ref sk, .ref na, .ref kp, .int 0, .int 0, .int 0, .int 0, .ref gb, .ref go, .ref fa, .ref ga, .int 0, .int 0, .ref vo])), (tp, .inl (G.2.1, 160, .inl (gPf tB 40))), (wo, .inl (G.2.1, 96, .inl (gPf tW 96)))]) [0, 1, 2] rfl
  have hD9 := hD.sub (ws' := [(h0, .inr (6, [.int 0, .ref kd, .ref mo, .ref st, .int 0, .ref ro, .ref tp, .int 40, .ref cd, .ref sr, .int 0, .int 0, .int 0, .ref ir, .ref ih, .ref ss, .ref sq, .ref ce, .ref lw, .int 38, .int 36, .int 1, .int 30, .ref wo, .ref he, .int 0, .int 0, .int 4, .ref sk, .ref na, .ref kp, .int 0, .int 0, .int 0, .int 0, .ref gb, .ref go, .ref fa, .ref ga, .int 0, .int 0, .ref vo])), (tp, .inl (G.2.1, 160, .inl (gPf tB 40))), (wo, .inl (G.2.1, 96, .inl (gPf tW 96)))]) [0, 1, 2] (by decide) rfl
  have hpost : (fun (u : Unit) => match u with | _ => True) () := by first | rfl | trivial
  exact W.vret hx hb hr (fun t ht hW => ⟨⟨(), rfl, hpost, by rw [ht]; exact hP9, va_K.moved hW.alike hK, hD9⟩, hS.F ht⟩) hS.2.2 dX6_next_403
abbrev q_X6_puts_z58 (G : gG) (h0 cd kd mo st ro tp sr ir ih ss sq ce lw wo he sk na kp gb go fa ga vo : Nat) (A : Nat → Prop) : Array Value → State → Outcome → State → Prop := va_Qv (fun (u : Unit) => match u with | _ => True) (fun (u : Unit) t => match u with | _ => va_P G.1 vwCl [(cd, .inl (G.2.1, 1200, .inl (upd (upd (upd (upd (upd (fun _ => 0) 0 0) 1 1) 2 17) 3 100001) 4 100030))), (h0, .inr (6, [.int 0, .ref kd, .ref mo, .ref st, .int 0, .ref ro, .ref tp, .int 40, .ref cd, .ref sr, .int 0, .int 0, .int 0, .ref ir, .ref ih, .ref ss, .ref sq, .ref ce, .ref lw, .int 38, .int 36, .int 1, .int 30, .ref wo, .ref he, .int 0, .int 0, .int 5, .ref sk, .ref na, .ref kp, .int 0, .int 0, .int 0, .int 0, .ref gb, .ref go, .ref fa, .ref ga, .int 0, .int 0, .ref vo]))] t.heap ∧ gK G t ∧ va_D A [(cd, .inl (G.2.1, 1200, .inl (upd (upd (upd (upd (upd (fun _ => 0) 0 0) 1 1) 2 17) 3 100001) 4 100030))), (h0, .inr (6, [.int 0, .ref kd, .ref mo, .ref st, .int 0, .ref ro, .ref tp, .int 40, .ref cd, .ref sr, .int 0, .int 0, .int 0, .ref ir, .ref ih, .ref ss, .ref sq, .ref ce, .ref lw, .int 38, .int 36, .int 1, .int 30, .ref wo, .ref he, .int 0, .int 0, .int 5, .ref sk, .ref na, .ref kp, .int 0, .int 0, .int 0, .int 0, .ref gb, .ref go, .ref fa, .ref ga, .int 0, .int 0, .ref vo]))]) A
set_option maxHeartbeats 4000000 in
set_option maxRecDepth 100000 in
theorem c_X6_puts_z58 (l : Launch) (G : gG) (h0 cd kd mo st ro tp sr ir ih ss sq ce lw wo he sk na kp gb go fa ga vo : Nat) (sz : Nat) : Met l yX6_puts wsX6_puts ({ frames := 0, cells := 0, slots := 0, locals := 0 }) (gPre G [.ref h0, .int 100030] [(cd, .inl (G.2.1, 1200, .inl (upd (upd (upd (upd (fun _ => 0) 0 0) 1 1) 2 17) 3 100001))), (h0, .inr (6, [.int 0, .ref kd, .ref mo, .ref st, .int 0, .ref ro, .ref tp, .int 40, .ref cd, .ref sr, .int 0, .int 0, .int 0, .ref ir, .ref ih, .ref ss, .ref sq, .ref ce, .ref lw, .int 38, .int 36, .int 1, .int 30, .ref wo, .ref he, .int 0, .int 0, .int 4, .ref sk, .ref na, .ref kp, .int 0, .int 0, .int 0, .int 0, .ref gb, .ref go, .ref fa, .ref ga, .int 0, .int 0, .ref vo]))] sz) (q_X6_puts_z58 G h0 cd kd mo st ro tp sr ir ih ss sq ce lw wo he sk na kp gb go fa ga vo (va_A [(cd, .inl (G.2.1, 1200, .inl (upd (upd (upd (upd (fun _ => 0) 0 0) 1 1) 2 17) 3 100001))), (h0, .inr (6, [.int 0, .ref kd, .ref mo, .ref st, .int 0, .ref ro, .ref tp, .int 40, .ref cd, .ref sr, .int 0, .int 0, .int 0, .ref ir, .ref ih, .ref ss, .ref sq, .ref ce, .ref lw, .int 38, .int 36, .int 1, .int 30, .ref wo, .ref he, .int 0, .int 0, .int 4, .ref sk, .ref na, .ref kp, .int 0, .int 0, .int 0, .int 0, .ref gb, .ref go, .ref fa, .ref ga, .int 0, .int 0, .ref vo]))] sz)) 0 0 (va_A [(cd, .inl (G.2.1, 1200, .inl (upd (upd (upd (upd (fun _ => 0) 0 0) 1 1) 2 17) 3 100001))), (h0, .inr (6, [.int 0, .ref kd, .ref mo, .ref st, .int 0, .ref ro, .ref tp, .int 40, .ref cd, .ref sr, .int 0, .int 0, .int 0, .ref ir, .ref ih, .ref ss, .ref sq, .ref ce, .ref lw, .int 38, .int 36, .int 1, .int 30, .ref wo, .ref he, .int 0, .int 0, .int 4, .ref sk, .ref na, .ref kp, .int 0, .int 0, .int 0, .int 0, .ref gb, .ref go, .ref fa, .ref ga, .int 0, .int 0, .ref vo]))] sz) := by
  refine Met.ofW (cc := cX6_puts) (maxL := 2) (ret := none) (by decide) rfl ?_
  intro p e s m args below meth c s₁ B hml hv
  obtain ⟨rfl, hsz, hP, hK, hD0⟩ := hv
  have hx := B.exec
  have hb := B.bytes
  have hr := B.returns
  have hts := atoms_spec (ws := wsX6_puts) B.pre
  have hown : s.vm.findClass RX6 = some m.cls := findClass_of_methodNamed B.named
  have hlocks := B.notSynchronized
  subst hsz
  have hD := hD0.self (sz := s.heap.size)
  generalize hAe : va_A [(cd, .inl (G.2.1, 1200, .inl (upd (upd (upd (upd (fun _ => 0) 0 0) 1 1) 2 17) 3 100001))), (h0, .inr (6, [.int 0, .ref kd, .ref mo, .ref st, .int 0, .ref ro, .ref tp, .int 40, .ref cd, .ref sr, .int 0, .int 0, .int 0, .ref ir, .ref ih, .ref ss, .ref sq, .ref ce, .ref lw, .int 38, .int 36, .int 1, .int 30, .ref wo, .ref he, .int 0, .int 0, .int 4, .ref sk, .ref na, .ref kp, .int 0, .int 0, .int 0, .int 0, .ref gb, .ref go, .ref fa, .ref ga, .int 0, .int 0, .ref vo]))] s.heap.size = A at hD ⊢
  have hA : ∀ q : Nat, s.heap.size ≤ q → A q := fun q h => by rw [← hAe]; exact Or.inr h
  have hS : va_S A s.heap s.heap [] := va_S.rf
  have hP : va_P G.1 vwCl [(cd, .inl (G.2.1, 1200, .inl (upd (upd (upd (upd (fun _ => 0) 0 0) 1 1) 2 17) 3 100001))), (h0, .inr (6, [.int 0, .ref kd, .ref mo, .ref st, .int 0, .ref ro, .ref tp, .int 40, .ref cd, .ref sr, .int 0, .int 0, .int 0, .ref ir, .ref ih, .ref ss, .ref sq, .ref ce, .ref lw, .int 38, .int 36, .int 1, .int 30, .ref wo, .ref he, .int 0, .int 0, .int 4, .ref sk, .ref na, .ref kp, .int 0, .int 0, .int 0, .int 0, .ref gb, .ref go, .ref fa, .ref ga, .int 0, .int 0, .ref vo]))] s.heap := hP
  have hD : va_D A [(cd, .inl (G.2.1, 1200, .inl (upd (upd (upd (upd (fun _ => 0) 0 0) 1 1) 2 17) 3 100001))), (h0, .inr (6, [.int 0, .ref kd, .ref mo, .ref st, .int 0, .ref ro, .ref tp, .int 40, .ref cd, .ref sr, .int 0, .int 0, .int 0, .ref ir, .ref ih, .ref ss, .ref sq, .ref ce, .ref lw, .int 38, .int 36, .int 1, .int 30, .ref wo, .ref he, .int 0, .int 0, .int 4, .ref sk, .ref na, .ref kp, .int 0, .int 0, .int 0, .int 0, .ref gb, .ref go, .ref fa, .ref ga, .int 0, .int 0, .ref vo]))] := hD
  have hl := lv_entry ([.ref h0, .int 100030]) (n := 2) (Nat.le_of_ble_eq_true rfl)
  rw [lg_entry_eq]
  generalize (lg_sl ([.ref h0, .int 100030]) ++ List.replicate (2 - (lg_sl ([.ref h0, .int 100030])).length) Slot.unset).toArray = ls at hl ⊢
  have hl : lv_has ls 2 [(0, .ref h0), (1, .int 100030)] := hl
  have kf25 := hts (.fieldLink RX6 25 "PebbleInShoeModel" "codes" "[I") (by decide +kernel)
  have hiX6 := (by decide +kernel : ∀ w ∈ wsX60, w ∈ wsX6_puts)
  have kf98 := hts (.fieldLink RX6 98 "PebbleInShoeModel" "texts" "I") (by decide +kernel)
  have kf127 := hts (.fieldLink RX6 127 "PebbleInShoeModel" "out" "I") (by decide +kernel)
  refine lv_aload_n hx hb dX6_puts_0 rfl (lv_at hl 0 rfl) ?_
  refine va_get (D := G.1) (ci := 6) (v := .ref cd) (C := RX6) (T := TX6) (N := 42) hx hb hts hiX6 hown hK hP 1 rfl rfl 8 (by decide) kf25 (fun _ h9 => h9) rfl dX6_puts_1 ?_
  refine lv_sipush (v := 200) hx hb dX6_puts_4 (by decide) ?_
  refine lv_aload_n hx hb dX6_puts_7 rfl (lv_at hl 0 rfl) ?_
  refine va_get (D := G.1) (ci := 6) (v := .int 0) (C := RX6) (T := TX6) (N := 42) hx hb hts hiX6 hown hK hP 1 rfl rfl 10 (by decide) kf98 (fun _ h9 => h9) rfl dX6_puts_8 ?_
  refine lv_imul hx hb dX6_puts_11 ?_
  refine lv_topi (fun v_1 ev_1 => ?_)
  have ev_1 : v_1 = 0 := ev_1.trans (by decide)
  subst ev_1
  refine lv_aload_n hx hb dX6_puts_12 rfl (lv_at hl 0 rfl) ?_
  refine va_get (D := G.1) (ci := 6) (v := .int 4) (C := RX6) (T := TX6) (N := 42) hx hb hts hiX6 hown hK hP 1 rfl rfl 27 (by decide) kf127 (fun _ h9 => h9) rfl dX6_puts_13 ?_
  refine lv_iadd hx hb dX6_puts_16 ?_
  refine lv_topi (fun v_2 ev_2 => ?_)
  have ev_2 : v_2 = 4 := ev_2.trans (by decide)
  subst ev_2
  refine lv_iload_n hx hb dX6_puts_17 rfl (lv_at hl 1 rfl) ?_
  refine va_iast (D := G.1) hx hb hK hP hD hS 0 0 rfl rfl (i := 4) (x := 100030) (gIn (by decide)) dX6_puts_18 (fun H locs hP hD hS => ?_)
  have hP : va_P G.1 vwCl [(cd, .inl (G.2.1, 1200, .inl (upd (upd (upd (upd (upd (fun _ => 0) 0 0) 1 1) 2 17) 3 100001) 4 100030))), (h0, .inr (6, [.int 0, .ref kd, .ref mo, .ref st, .int 0, .ref ro, .ref tp, .int 40, .ref cd, .ref sr, .int 0, .int 0, .int 0, .ref ir, .ref ih, .ref ss, .ref sq, .ref ce, .ref lw, .int 38, .int 36, .int 1, .int 30, .ref wo, .ref he, .int 0, .int 0, .int 4, .ref sk, .ref na, .ref kp, .int 0, .int 0, .int 0, .int 0, .ref gb, .ref go, .ref fa, .ref ga, .int 0, .int 0, .ref vo]))] H := hP
  have hD : va_D A [(cd, .inl (G.2.1, 1200, .inl (upd (upd (upd (upd (upd (fun _ => 0) 0 0) 1 1) 2 17) 3 100001) 4 100030))), (h0, .inr (6, [.int 0, .ref kd, .ref mo, .ref st, .int 0, .ref ro, .ref tp, .int 40, .ref cd, .ref sr, .int 0, .int 0, .int 0, .ref ir, .ref ih, .ref ss, .ref sq, .ref ce, .ref lw, .int 38, .int 36, .int 1, .int 30, .ref wo, .ref he, .int 0, .int 0, .int 4, .ref sk, .ref na, .ref kp, .int 0, .int 0, .int 0, .int 0, .ref gb, .ref go, .ref fa, .ref ga, .int 0, .int 0, .ref vo]))] := hD
  refine lv_aload_n hx hb dX6_puts_19 rfl (lv_at hl 0 rfl) ?_
  refine lv_dup hx hb dX6_puts_20 rfl ?_
  refine va_get (D := G.1) (ci := 6) (v := .int 4) (C := RX6) (T := TX6) (N := 42) hx hb hts hiX6 hown hK hP 1 rfl rfl 27 (by decide) kf127 (fun _ h9 => h9) rfl dX6_puts_21 ?_
  refine lv_iconst (v := 1) hx hb dX6_puts_24 (by decide) ?_
  refine lv_iadd hx hb dX6_puts_25 ?_
  refine lv_topi (fun v_3 ev_3 => ?_)
  have ev_3 : v_3 = 5 := ev_3.trans (by decide)
  subst ev_3
  refine va_put (D := G.1) (ci := 6) (v := .int 5) (ty := .int) (C := RX6) (T := TX6) (N := 42) hx hb hts hiX6 tyX6 tyX6_ok nmX6 hown hK hP hD hS 1 rfl rfl 27 (by decide) kf127 (fun _ h9 => h9) rfl (by decide +kernel) rfl rfl (Nat.le_of_ble_eq_true rfl) dX6_puts_26 (fun H locs hP hD hS => ?_)
  have hP : va_P G.1 vwCl [(cd, .inl (G.2.1, 1200, .inl (upd (upd (upd (upd (upd (fun _ => 0) 0 0) 1 1) 2 17) 3 100001) 4 100030))), (h0, .inr (6, [.int 0, .ref kd, .ref mo, .ref st, .int 0, .ref ro, .ref tp, .int 40, .ref cd, .ref sr, .int 0, .int 0, .int 0, .ref ir, .ref ih, .ref ss, .ref sq, .ref ce, .ref lw, .int 38, .int 36, .int 1, .int 30, .ref wo, .ref he, .int 0, .int 0, .int 5, .ref sk, .ref na, .ref kp, .int 0, .int 0, .int 0, .int 0, .ref gb, .ref go, .ref fa, .ref ga, .int 0, .int 0, .ref vo]))] H := hP
  have hD : va_D A [(cd, .inl (G.2.1, 1200, .inl (upd (upd (upd (upd (upd (fun _ => 0) 0 0) 1 1) 2 17) 3 100001) 4 100030))), (h0, .inr (6, [.int 0, .ref kd, .ref mo, .ref st, .int 0, .ref ro, .ref tp, .int 40, .ref cd, .ref sr, .int 0, .int 0, .int 0, .ref ir, .ref ih, .ref ss, .ref sq, .ref ce, .ref lw, .int 38, .int 36, .int 1, .int 30, .ref wo, .ref he, .int 0, .int 0, .int 5, .ref sk, .ref na, .ref kp, .int 0, .int 0, .int 0, .int 0, .ref gb, .ref go, .ref fa, .ref ga, .int 0, .int 0, .ref vo]))] := hD
  have hP9 := hP.sub (ws' := [(cd, .inl (G.2.1, 1200, .inl (upd (upd (upd (upd (upd (fun _ => 0) 0 0) 1 1) 2 17) 3 100001) 4 100030))), (h0, .inr (6, [.int 0, .ref kd, .ref mo, .ref st, .int 0, .ref ro, .ref tp, .int 40, .ref cd, .ref sr, .int 0, .int 0, .int 0, .ref ir, .ref ih, .ref ss, .ref sq, .ref ce, .ref lw, .int 38, .int 36, .int 1, .int 30, .ref wo, .ref he, .int 0, .int 0, .int 5, .ref sk, .ref na, .ref kp, .int 0, .int 0, .int 0, .int 0, .ref gb, .ref go, .ref fa, .ref ga, .int 0, .int 0, .ref vo]))]) [0, 1] rfl
  have hD9 := hD.sub (ws' := [(cd, .inl (G.2.1, 1200, .inl (upd (upd (upd (upd (upd (fun _ => 0) 0 0) 1 1) 2 17) 3 100001) 4 100030))), (h0, .inr (6, [.int 0, .ref kd, .ref mo, .ref st, .int 0, .ref ro, .ref tp, .int 40, .ref cd, .ref sr, .int 0, .int 0, .int 0, .ref ir, .ref ih, .ref ss, .ref sq, .ref ce, .ref lw, .int 38, .int 36, .int 1, .int 30, .ref wo, .ref he, .int 0, .int 0, .int 5, .ref sk, .ref na, .ref kp, .int 0, .int 0, .int 0, .int 0, .ref gb, .ref go, .ref fa, .ref ga, .int 0, .int 0, .ref vo]))]) [0, 1] (by decide) rfl
  have hpost : (fun (u : Unit) => match u with | _ => True) () := by first | rfl | trivial
  exact W.vret hx hb hr (fun t ht hW => ⟨⟨(), rfl, hpost, by rw [ht]; exact hP9, va_K.moved hW.alike hK, hD9⟩, hS.F ht⟩) hS.2.2 dX6_puts_29
abbrev q_X6_unwinds_z59 (G : gG) (h0 he cd kd mo st ro tp sr ir ih ss sq ce lw wo sk na kp gb go fa ga vo : Nat) (A : Nat → Prop) : Array Value → State → Outcome → State → Prop := va_Qv (fun (u : Unit) => match u with | _ => True) (fun (u : Unit) t => match u with | _ => va_P G.1 vwCl [(he, .inl (G.2.1, 200, .inl (upd (fun _ => 0) 0 17))), (cd, .inl (G.2.1, 1200, .inl (upd (upd (upd (upd (upd (fun _ => 0) 0 0) 1 1) 2 17) 3 100001) 4 100030))), (h0, .inr (6, [.int 0, .ref kd, .ref mo, .ref st, .int 0, .ref ro, .ref tp, .int 40, .ref cd, .ref sr, .int 0, .int 0, .int 0, .ref ir, .ref ih, .ref ss, .ref sq, .ref ce, .ref lw, .int 38, .int 36, .int 1, .int 30, .ref wo, .ref he, .int 0, .int 0, .int 5, .ref sk, .ref na, .ref kp, .int 0, .int 0, .int 0, .int 0, .ref gb, .ref go, .ref fa, .ref ga, .int 0, .int 0, .ref vo]))] t.heap ∧ gK G t ∧ va_D A [(he, .inl (G.2.1, 200, .inl (upd (fun _ => 0) 0 17))), (cd, .inl (G.2.1, 1200, .inl (upd (upd (upd (upd (upd (fun _ => 0) 0 0) 1 1) 2 17) 3 100001) 4 100030))), (h0, .inr (6, [.int 0, .ref kd, .ref mo, .ref st, .int 0, .ref ro, .ref tp, .int 40, .ref cd, .ref sr, .int 0, .int 0, .int 0, .ref ir, .ref ih, .ref ss, .ref sq, .ref ce, .ref lw, .int 38, .int 36, .int 1, .int 30, .ref wo, .ref he, .int 0, .int 0, .int 5, .ref sk, .ref na, .ref kp, .int 0, .int 0, .int 0, .int 0, .ref gb, .ref go, .ref fa, .ref ga, .int 0, .int 0, .ref vo]))]) A
set_option maxHeartbeats 4000000 in
set_option maxRecDepth 100000 in
theorem c_X6_unwinds_z59 (l : Launch) (G : gG) (h0 he cd kd mo st ro tp sr ir ih ss sq ce lw wo sk na kp gb go fa ga vo : Nat) (sz : Nat) : Met l yX6_unwinds wsX6_unwinds ({ frames := 0, cells := 0, slots := 0, locals := 0 }) (gPre G [.ref h0, .int 7] [(he, .inl (G.2.1, 200, .inl (upd (fun _ => 0) 0 17))), (cd, .inl (G.2.1, 1200, .inl (upd (upd (upd (upd (upd (fun _ => 0) 0 0) 1 1) 2 17) 3 100001) 4 100030))), (h0, .inr (6, [.int 0, .ref kd, .ref mo, .ref st, .int 0, .ref ro, .ref tp, .int 40, .ref cd, .ref sr, .int 0, .int 0, .int 0, .ref ir, .ref ih, .ref ss, .ref sq, .ref ce, .ref lw, .int 38, .int 36, .int 1, .int 30, .ref wo, .ref he, .int 0, .int 0, .int 5, .ref sk, .ref na, .ref kp, .int 0, .int 0, .int 0, .int 0, .ref gb, .ref go, .ref fa, .ref ga, .int 0, .int 0, .ref vo]))] sz) (q_X6_unwinds_z59 G h0 he cd kd mo st ro tp sr ir ih ss sq ce lw wo sk na kp gb go fa ga vo (va_A [(he, .inl (G.2.1, 200, .inl (upd (fun _ => 0) 0 17))), (cd, .inl (G.2.1, 1200, .inl (upd (upd (upd (upd (upd (fun _ => 0) 0 0) 1 1) 2 17) 3 100001) 4 100030))), (h0, .inr (6, [.int 0, .ref kd, .ref mo, .ref st, .int 0, .ref ro, .ref tp, .int 40, .ref cd, .ref sr, .int 0, .int 0, .int 0, .ref ir, .ref ih, .ref ss, .ref sq, .ref ce, .ref lw, .int 38, .int 36, .int 1, .int 30, .ref wo, .ref he, .int 0, .int 0, .int 5, .ref sk, .ref na, .ref kp, .int 0, .int 0, .int 0, .int 0, .ref gb, .ref go, .ref fa, .ref ga, .int 0, .int 0, .ref vo]))] sz)) 0 0 (va_A [(he, .inl (G.2.1, 200, .inl (upd (fun _ => 0) 0 17))), (cd, .inl (G.2.1, 1200, .inl (upd (upd (upd (upd (upd (fun _ => 0) 0 0) 1 1) 2 17) 3 100001) 4 100030))), (h0, .inr (6, [.int 0, .ref kd, .ref mo, .ref st, .int 0, .ref ro, .ref tp, .int 40, .ref cd, .ref sr, .int 0, .int 0, .int 0, .ref ir, .ref ih, .ref ss, .ref sq, .ref ce, .ref lw, .int 38, .int 36, .int 1, .int 30, .ref wo, .ref he, .int 0, .int 0, .int 5, .ref sk, .ref na, .ref kp, .int 0, .int 0, .int 0, .int 0, .ref gb, .ref go, .ref fa, .ref ga, .int 0, .int 0, .ref vo]))] sz) := by
  refine Met.ofW (cc := cX6_unwinds) (maxL := 3) (ret := none) (by decide) rfl ?_
  intro p e s m args below meth c s₁ B hml hv
  obtain ⟨rfl, hsz, hP, hK, hD0⟩ := hv
  have hx := B.exec
  have hb := B.bytes
  have hr := B.returns
  have hts := atoms_spec (ws := wsX6_unwinds) B.pre
  have hown : s.vm.findClass RX6 = some m.cls := findClass_of_methodNamed B.named
  have hlocks := B.notSynchronized
  subst hsz
  have hD := hD0.self (sz := s.heap.size)
  generalize hAe : va_A [(he, .inl (G.2.1, 200, .inl (upd (fun _ => 0) 0 17))), (cd, .inl (G.2.1, 1200, .inl (upd (upd (upd (upd (upd (fun _ => 0) 0 0) 1 1) 2 17) 3 100001) 4 100030))), (h0, .inr (6, [.int 0, .ref kd, .ref mo, .ref st, .int 0, .ref ro, .ref tp, .int 40, .ref cd, .ref sr, .int 0, .int 0, .int 0, .ref ir, .ref ih, .ref ss, .ref sq, .ref ce, .ref lw, .int 38, .int 36, .int 1, .int 30, .ref wo, .ref he, .int 0, .int 0, .int 5, .ref sk, .ref na, .ref kp, .int 0, .int 0, .int 0, .int 0, .ref gb, .ref go, .ref fa, .ref ga, .int 0, .int 0, .ref vo]))] s.heap.size = A at hD ⊢
  have hA : ∀ q : Nat, s.heap.size ≤ q → A q := fun q h => by rw [← hAe]; exact Or.inr h
  have hS : va_S A s.heap s.heap [] := va_S.rf
  have hP : va_P G.1 vwCl [(he, .inl (G.2.1, 200, .inl (upd (fun _ => 0) 0 17))), (cd, .inl (G.2.1, 1200, .inl (upd (upd (upd (upd (upd (fun _ => 0) 0 0) 1 1) 2 17) 3 100001) 4 100030))), (h0, .inr (6, [.int 0, .ref kd, .ref mo, .ref st, .int 0, .ref ro, .ref tp, .int 40, .ref cd, .ref sr, .int 0, .int 0, .int 0, .ref ir, .ref ih, .ref ss, .ref sq, .ref ce, .ref lw, .int 38, .int 36, .int 1, .int 30, .ref wo, .ref he, .int 0, .int 0, .int 5, .ref sk, .ref na, .ref kp, .int 0, .int 0, .int 0, .int 0, .ref gb, .ref go, .ref fa, .ref ga, .int 0, .int 0, .ref vo]))] s.heap := hP
  have hD : va_D A [(he, .inl (G.2.1, 200, .inl (upd (fun _ => 0) 0 17))), (cd, .inl (G.2.1, 1200, .inl (upd (upd (upd (upd (upd (fun _ => 0) 0 0) 1 1) 2 17) 3 100001) 4 100030))), (h0, .inr (6, [.int 0, .ref kd, .ref mo, .ref st, .int 0, .ref ro, .ref tp, .int 40, .ref cd, .ref sr, .int 0, .int 0, .int 0, .ref ir, .ref ih, .ref ss, .ref sq, .ref ce, .ref lw, .int 38, .int 36, .int 1, .int 30, .ref wo, .ref he, .int 0, .int 0, .int 5, .ref sk, .ref na, .ref kp, .int 0, .int 0, .int 0, .int 0, .ref gb, .ref go, .ref fa, .ref ga, .int 0, .int 0, .ref vo]))] := hD
  have hl := lv_entry ([.ref h0, .int 7]) (n := 3) (Nat.le_of_ble_eq_true rfl)
  rw [lg_entry_eq]
  generalize (lg_sl ([.ref h0, .int 7]) ++ List.replicate (3 - (lg_sl ([.ref h0, .int 7])).length) Slot.unset).toArray = ls at hl ⊢
  have hl : lv_has ls 3 [(0, .ref h0), (1, .int 7)] := hl
  have kf130 := hts (.fieldLink RX6 130 "PebbleInShoeModel" "heldMany" "I") (by decide +kernel)
  have hiX6 := (by decide +kernel : ∀ w ∈ wsX60, w ∈ wsX6_unwinds)
  refine lv_aload_n hx hb dX6_unwinds_0 rfl (lv_at hl 0 rfl) ?_
  refine va_get (D := G.1) (ci := 6) (v := .int 0) (C := RX6) (T := TX6) (N := 42) hx hb hts hiX6 hown hK hP 2 rfl rfl 25 (by decide) kf130 (fun _ h9 => h9) rfl dX6_unwinds_1 ?_
  refine lv_if_le (tgt := 79) hx hb dX6_unwinds_4 (by decide) (fun c_1 => ?_) (fun c_1 => ?_)
  rotate_left
  · exact absurd (by decide) c_1
  have hP9 := hP.sub (ws' := [(he, .inl (G.2.1, 200, .inl (upd (fun _ => 0) 0 17))), (cd, .inl (G.2.1, 1200, .inl (upd (upd (upd (upd (upd (fun _ => 0) 0 0) 1 1) 2 17) 3 100001) 4 100030))), (h0, .inr (6, [.int 0, .ref kd, .ref mo, .ref st, .int 0, .ref ro, .ref tp, .int 40, .ref cd, .ref sr, .int 0, .int 0, .int 0, .ref ir, .ref ih, .ref ss, .ref sq, .ref ce, .ref lw, .int 38, .int 36, .int 1, .int 30, .ref wo, .ref he, .int 0, .int 0, .int 5, .ref sk, .ref na, .ref kp, .int 0, .int 0, .int 0, .int 0, .ref gb, .ref go, .ref fa, .ref ga, .int 0, .int 0, .ref vo]))]) [0, 1, 2] rfl
  have hD9 := hD.sub (ws' := [(he, .inl (G.2.1, 200, .inl (upd (fun _ => 0) 0 17))), (cd, .inl (G.2.1, 1200, .inl (upd (upd (upd (upd (upd (fun _ => 0) 0 0) 1 1) 2 17) 3 100001) 4 100030))), (h0, .inr (6, [.int 0, .ref kd, .ref mo, .ref st, .int 0, .ref ro, .ref tp, .int 40, .ref cd, .ref sr, .int 0, .int 0, .int 0, .ref ir, .ref ih, .ref ss, .ref sq, .ref ce, .ref lw, .int 38, .int 36, .int 1, .int 30, .ref wo, .ref he, .int 0, .int 0, .int 5, .ref sk, .ref na, .ref kp, .int 0, .int 0, .int 0, .int 0, .ref gb, .ref go, .ref fa, .ref ga, .int 0, .int 0, .ref vo]))]) [0, 1, 2] (by decide) rfl
  have hpost : (fun (u : Unit) => match u with | _ => True) () := by first | rfl | trivial
  exact W.vret hx hb hr (fun t ht hW => ⟨⟨(), rfl, hpost, by rw [ht]; exact hP9, va_K.moved hW.alike hK, hD9⟩, hS.F ht⟩) hS.2.2 dX6_unwinds_79
abbrev q_X6_next_z60 (G : gG) (h0 tp wo kd mo st ro cd sr ir ih ss sq ce lw he sk na kp gb go fa ga vo : Nat) (A : Nat → Prop) : Array Value → State → Outcome → State → Prop := va_Qv (fun (u : Unit) => match u with | _ => True) (fun (u : Unit) t => match u with | _ => va_P G.1 vwCl [(tp, .inl (G.2.1, 160, .inl (gPf tB 40))), (wo, .inl (G.2.1, 96, .inl (gPf tW 96))), (h0, .inr (6, [.int 0, .ref kd, .ref mo, .ref st, .int 0, .ref ro, .ref tp, .int 40, .ref cd, .ref sr, .int 0, .int 0, .int 0, .ref ir, .ref ih, .ref ss, .ref sq, .ref ce, .ref lw, .int 40, .int 39, .int 59, .int 0, .ref wo, .ref he, .int 0, .int 0, .int 5, .ref sk, .ref na, .ref kp, .int 0, .int 0, .int 0, .int 0, .ref gb, .ref go, .ref fa, .ref ga, .int 0, .int 0, .ref vo]))] t.heap ∧ gK G t ∧ va_D A [(tp, .inl (G.2.1, 160, .inl (gPf tB 40))), (wo, .inl (G.2.1, 96, .inl (gPf tW 96))), (h0, .inr (6, [.int 0, .ref kd, .ref mo, .ref st, .int 0, .ref ro, .ref tp, .int 40, .ref cd, .ref sr, .int 0, .int 0, .int 0, .ref ir, .ref ih, .ref ss, .ref sq, .ref ce, .ref lw, .int 40, .int 39, .int 59, .int 0, .ref wo, .ref he, .int 0, .int 0, .int 5, .ref sk, .ref na, .ref kp, .int 0, .int 0, .int 0, .int 0, .ref gb, .ref go, .ref fa, .ref ga, .int 0, .int 0, .ref vo]))]) A
set_option maxHeartbeats 4000000 in
set_option maxRecDepth 100000 in
theorem c_X6_next_z60 (l : Launch) (G : gG) (h0 tp wo kd mo st ro cd sr ir ih ss sq ce lw he sk na kp gb go fa ga vo : Nat) (sz : Nat) : Met l yX6_next wsX6_next ({ frames := 1, cells := 0, slots := 0, locals := 22 }) (gPre G [.ref h0] [(tp, .inl (G.2.1, 160, .inl (gPf tB 40))), (wo, .inl (G.2.1, 96, .inl (gPf tW 96))), (h0, .inr (6, [.int 0, .ref kd, .ref mo, .ref st, .int 0, .ref ro, .ref tp, .int 40, .ref cd, .ref sr, .int 0, .int 0, .int 0, .ref ir, .ref ih, .ref ss, .ref sq, .ref ce, .ref lw, .int 38, .int 36, .int 1, .int 30, .ref wo, .ref he, .int 0, .int 0, .int 5, .ref sk, .ref na, .ref kp, .int 0, .int 0, .int 0, .int 0, .ref gb, .ref go, .ref fa, .ref ga, .int 0, .int 0, .ref vo]))] sz) (q_X6_next_z60 G h0 tp wo kd mo st ro cd sr ir ih ss sq ce lw he sk na kp gb go fa ga vo (va_A [(tp, .inl (G.2.1, 160, .inl (gPf tB 40))), (wo, .inl (G.2.1, 96, .inl (gPf tW 96))), (h0, .inr (6, [.int 0, .ref kd, .ref mo, .ref st, .int 0, .ref ro, .ref tp, .int 40, .ref cd, .ref sr, .int 0, .int 0, .int 0, .ref ir, .ref ih, .ref ss, .ref sq, .ref ce, .ref lw, .int 38, .int 36, .int 1, .int 30, .ref wo, .ref he, .int 0, .int 0, .int 5, .ref sk, .ref na, .ref kp, .int 0, .int 0, .int 0, .int 0, .ref gb, .ref go, .ref fa, .ref ga, .int 0, .int 0, .ref vo]))] sz)) 0 0 (va_A [(tp, .inl (G.2.1, 160, .inl (gPf tB 40))), (wo, .inl (G.2.1, 96, .inl (gPf tW 96))), (h0, .inr (6, [.int 0, .ref kd, .ref mo, .ref st, .int 0, .ref ro, .ref tp, .int 40, .ref cd, .ref sr, .int 0, .int 0, .int 0, .ref ir, .ref ih, .ref ss, .ref sq, .ref ce, .ref lw, .int 38, .int 36, .int 1, .int 30, .ref wo, .ref he, .int 0, .int 0, .int 5, .ref sk, .ref na, .ref kp, .int 0, .int 0, .int 0, .int 0, .ref gb, .ref go, .ref fa, .ref ga, .int 0, .int 0, .ref vo]))] sz) := by
  refine Met.ofW (cc := cX6_next) (maxL := 3) (ret := none) (by decide) rfl ?_
  intro p e s m args below meth c s₁ B hml hv
  obtain ⟨rfl, hsz, hP, hK, hD0⟩ := hv
  have hx := B.exec
  have hb := B.bytes
  have hr := B.returns
  have hts := atoms_spec (ws := wsX6_next) B.pre
  have hown : s.vm.findClass RX6 = some m.cls := findClass_of_methodNamed B.named
  have hlocks := B.notSynchronized
  subst hsz
  have hD := hD0.self (sz := s.heap.size)
  generalize hAe : va_A [(tp, .inl (G.2.1, 160, .inl (gPf tB 40))), (wo, .inl (G.2.1, 96, .inl (gPf tW 96))), (h0, .inr (6, [.int 0, .ref kd, .ref mo, .ref st, .int 0, .ref ro, .ref tp, .int 40, .ref cd, .ref sr, .int 0, .int 0, .int 0, .ref ir, .ref ih, .ref ss, .ref sq, .ref ce, .ref lw, .int 38, .int 36, .int 1, .int 30, .ref wo, .ref he, .int 0, .int 0, .int 5, .ref sk, .ref na, .ref kp, .int 0, .int 0, .int 0, .int 0, .ref gb, .ref go, .ref fa, .ref ga, .int 0, .int 0, .ref vo]))] s.heap.size = A at hD ⊢
  have hA : ∀ q : Nat, s.heap.size ≤ q → A q := fun q h => by rw [← hAe]; exact Or.inr h
  have hS : va_S A s.heap s.heap [] := va_S.rf
  have hP : va_P G.1 vwCl [(tp, .inl (G.2.1, 160, .inl (gPf tB 40))), (wo, .inl (G.2.1, 96, .inl (gPf tW 96))), (h0, .inr (6, [.int 0, .ref kd, .ref mo, .ref st, .int 0, .ref ro, .ref tp, .int 40, .ref cd, .ref sr, .int 0, .int 0, .int 0, .ref ir, .ref ih, .ref ss, .ref sq, .ref ce, .ref lw, .int 38, .int 36, .int 1, .int 30, .ref wo, .ref he, .int 0, .int 0, .int 5, .ref sk, .ref na, .ref kp, .int 0, .int 0, .int 0, .int 0, .ref gb, .ref go, .ref fa, .ref ga, .int 0, .int 0, .ref vo]))] s.heap := hP
  have hD : va_D A [(tp, .inl (G.2.1, 160, .inl (gPf tB 40))), (wo, .inl (G.2.1, 96, .inl (gPf tW 96))), (h0, .inr (6, [.int 0, .ref kd, .ref mo, .ref st, .int 0, .ref ro, .ref tp, .int 40, .ref cd, .ref sr, .int 0, .int 0, .int 0, .ref ir, .ref ih, .ref ss, .ref sq, .ref ce, .ref lw, .int 38, .int 36, .int 1, .int 30, .ref wo, .ref he, .int 0, .int 0, .int 5, .ref sk, .ref na, .ref kp, .int 0, .int 0, .int 0, .int 0, .ref gb, .ref go, .ref fa, .ref ga, .int 0, .int 0, .ref vo]))] := hD
  have hl := lv_entry ([.ref h0]) (n := 3) (Nat.le_of_ble_eq_true rfl)
  rw [lg_entry_eq]
  generalize (lg_sl ([.ref h0]) ++ List.replicate (3 - (lg_sl ([.ref h0])).length) Slot.unset).toArray = ls at hl ⊢
  have hl : lv_has ls 3 [(0, .ref h0)] := hl
  have kf111 := hts (.fieldLink RX6 111 "PebbleInShoeModel" "at" "I") (by decide +kernel)
  have hiX6 := (by decide +kernel : ∀ w ∈ wsX60, w ∈ wsX6_next)
  have kf80 := hts (.fieldLink RX6 80 "PebbleInShoeModel" "taped" "I") (by decide +kernel)
  have kf22 := hts (.fieldLink RX6 22 "PebbleInShoeModel" "tape" "[I") (by decide +kernel)
  have kf114 := hts (.fieldLink RX6 114 "PebbleInShoeModel" "begun" "I") (by decide +kernel)
  have kf117 := hts (.fieldLink RX6 117 "PebbleInShoeModel" "token" "I") (by decide +kernel)
  have kf120 := hts (.fieldLink RX6 120 "PebbleInShoeModel" "value" "I") (by decide +kernel)
  refine lv_aload_n hx hb dX6_next_0 rfl (lv_at hl 0 rfl) ?_
  refine va_get (D := G.1) (ci := 6) (v := .int 38) (C := RX6) (T := TX6) (N := 42) hx hb hts hiX6 hown hK hP 2 rfl rfl 19 (by decide) kf111 (fun _ h9 => h9) rfl dX6_next_1 ?_
  refine lv_aload_n hx hb dX6_next_4 rfl (lv_at hl 0 rfl) ?_
  refine va_get (D := G.1) (ci := 6) (v := .int 40) (C := RX6) (T := TX6) (N := 42) hx hb hts hiX6 hown hK hP 2 rfl rfl 7 (by decide) kf80 (fun _ h9 => h9) rfl dX6_next_5 ?_
  refine lv_icmp_ge (tgt := 52) hx hb dX6_next_8 (by decide) (fun c_1 => ?_) (fun c_1 => ?_)
  · exact absurd c_1 (by decide)
  refine lv_aload_n hx hb dX6_next_11 rfl (lv_at hl 0 rfl) ?_
  refine va_get (D := G.1) (ci := 6) (v := .ref tp) (C := RX6) (T := TX6) (N := 42) hx hb hts hiX6 hown hK hP 2 rfl rfl 6 (by decide) kf22 (fun _ h9 => h9) rfl dX6_next_12 ?_
  refine lv_aload_n hx hb dX6_next_15 rfl (lv_at hl 0 rfl) ?_
  refine va_get (D := G.1) (ci := 6) (v := .int 38) (C := RX6) (T := TX6) (N := 42) hx hb hts hiX6 hown hK hP 2 rfl rfl 19 (by decide) kf111 (fun _ h9 => h9) rfl dX6_next_16 ?_
  refine va_iald (D := G.1) hx hb hK hP 0 0 rfl rfl (i := 38) (gIn (by decide)) dX6_next_19 ?_
  refine lv_topi (fun v_2 ev_2 => ?_)
  have ev_2 : v_2 = 32 := ev_2.trans (by decide)
  subst ev_2
  refine lv_bipush (v := 32) hx hb dX6_next_20 (by decide) ?_
  refine lv_icmp_eq (tgt := 39) hx hb dX6_next_22 (by decide) (fun c_3 => ?_) (fun c_3 => ?_)
  rotate_left
  · exact absurd (by decide) c_3
  refine lv_aload_n hx hb dX6_next_39 rfl (lv_at hl 0 rfl) ?_
  refine lv_dup hx hb dX6_next_40 rfl ?_
  refine va_get (D := G.1) (ci := 6) (v := .int 38) (C := RX6) (T := TX6) (N := 42) hx hb hts hiX6 hown hK hP 2 rfl rfl 19 (by decide) kf111 (fun _ h9 => h9) rfl dX6_next_41 ?_
  refine lv_iconst (v := 1) hx hb dX6_next_44 (by decide) ?_
  refine lv_iadd hx hb dX6_next_45 ?_
  refine lv_topi (fun v_4 ev_4 => ?_)
  have ev_4 : v_4 = 39 := ev_4.trans (by decide)
  subst ev_4
  refine va_put (D := G.1) (ci := 6) (v := .int 39) (ty := .int) (C := RX6) (T := TX6) (N := 42) hx hb hts hiX6 tyX6 tyX6_ok nmX6 hown hK hP hD hS 2 rfl rfl 19 (by decide) kf111 (fun _ h9 => h9) rfl (by decide +kernel) rfl rfl (Nat.le_of_ble_eq_true rfl) dX6_next_46 (fun H locs hP hD hS => ?_)
  have hP : va_P G.1 vwCl [(tp, .inl (G.2.1, 160, .inl (gPf tB 40))), (wo, .inl (G.2.1, 96, .inl (gPf tW 96))), (h0, .inr (6, [.int 0, .ref kd, .ref mo, .ref st, .int 0, .ref ro, .ref tp, .int 40, .ref cd, .ref sr, .int 0, .int 0, .int 0, .ref ir, .ref ih, .ref ss, .ref sq, .ref ce, .ref lw, .int 39, .int 36, .int 1, .int 30, .ref wo, .ref he, .int 0, .int 0, .int 5, .ref sk, .ref na, .ref kp, .int 0, .int 0, .int 0, .int 0, .ref gb, .ref go, .ref fa, .ref ga, .int 0, .int 0, .ref vo]))] H := hP
  have hD : va_D A [(tp, .inl (G.2.1, 160, .inl (gPf tB 40))), (wo, .inl (G.2.1, 96, .inl (gPf tW 96))), (h0, .inr (6, [.int 0, .ref kd, .ref mo, .ref st, .int 0, .ref ro, .ref tp, .int 40, .ref cd, .ref sr, .int 0, .int 0, .int 0, .ref ir, .ref ih, .ref ss, .ref sq, .ref ce, .ref lw, .int 39, .int 36, .int 1, .int 30, .ref wo, .ref he, .int 0, .int 0, .int 5, .ref sk, .ref na, .ref kp, .int 0, .int 0, .int 0, .int 0, .ref gb, .ref go, .ref fa, .ref ga, .int 0, .int 0, .ref vo]))] := hD
  refine lv_goto (tgt := 0) hx hb dX6_next_49 (by decide) ?_
  refine lv_aload_n hx hb dX6_next_0 rfl (lv_at hl 0 rfl) ?_
  refine va_get (D := G.1) (ci := 6) (v := .int 39) (C := RX6) (T := TX6) (N := 42) hx hb hts hiX6 hown hK hP 2 rfl rfl 19 (by decide) kf111 (fun _ h9 => h9) rfl dX6_next_1 ?_
  refine lv_aload_n hx hb dX6_next_4 rfl (lv_at hl 0 rfl) ?_
  refine va_get (D := G.1) (ci := 6) (v := .int 40) (C := RX6) (T := TX6) (N := 42) hx hb hts hiX6 hown hK hP 2 rfl rfl 7 (by decide) kf80 (fun _ h9 => h9) rfl dX6_next_5 ?_
  refine lv_icmp_ge (tgt := 52) hx hb dX6_next_8 (by decide) (fun c_5 => ?_) (fun c_5 => ?_)
  · exact absurd c_5 (by decide)
  refine lv_aload_n hx hb dX6_next_11 rfl (lv_at hl 0 rfl) ?_
  refine va_get (D := G.1) (ci := 6) (v := .ref tp) (C := RX6) (T := TX6) (N := 42) hx hb hts hiX6 hown hK hP 2 rfl rfl 6 (by decide) kf22 (fun _ h9 => h9) rfl dX6_next_12 ?_
  refine lv_aload_n hx hb dX6_next_15 rfl (lv_at hl 0 rfl) ?_
  refine va_get (D := G.1) (ci := 6) (v := .int 39) (C := RX6) (T := TX6) (N := 42) hx hb hts hiX6 hown hK hP 2 rfl rfl 19 (by decide) kf111 (fun _ h9 => h9) rfl dX6_next_16 ?_
  refine va_iald (D := G.1) hx hb hK hP 0 0 rfl rfl (i := 39) (gIn (by decide)) dX6_next_19 ?_
  refine lv_topi (fun v_6 ev_6 => ?_)
  have ev_6 : v_6 = 59 := ev_6.trans (by decide)
  subst ev_6
  refine lv_bipush (v := 32) hx hb dX6_next_20 (by decide) ?_
  refine lv_icmp_eq (tgt := 39) hx hb dX6_next_22 (by decide) (fun c_7 => ?_) (fun c_7 => ?_)
  · exact absurd c_7 (by decide)
  refine lv_aload_n hx hb dX6_next_25 rfl (lv_at hl 0 rfl) ?_
  refine va_get (D := G.1) (ci := 6) (v := .ref tp) (C := RX6) (T := TX6) (N := 42) hx hb hts hiX6 hown hK hP 2 rfl rfl 6 (by decide) kf22 (fun _ h9 => h9) rfl dX6_next_26 ?_
  refine lv_aload_n hx hb dX6_next_29 rfl (lv_at hl 0 rfl) ?_
  refine va_get (D := G.1) (ci := 6) (v := .int 39) (C := RX6) (T := TX6) (N := 42) hx hb hts hiX6 hown hK hP 2 rfl rfl 19 (by decide) kf111 (fun _ h9 => h9) rfl dX6_next_30 ?_
  refine va_iald (D := G.1) hx hb hK hP 0 0 rfl rfl (i := 39) (gIn (by decide)) dX6_next_33 ?_
  refine lv_topi (fun v_8 ev_8 => ?_)
  have ev_8 : v_8 = 59 := ev_8.trans (by decide)
  subst ev_8
  refine lv_bipush (v := 10) hx hb dX6_next_34 (by decide) ?_
  refine lv_icmp_ne (tgt := 52) hx hb dX6_next_36 (by decide) (fun c_9 => ?_) (fun c_9 => ?_)
  rotate_left
  · exact absurd c_9 (by decide)
  refine lv_aload_n hx hb dX6_next_52 rfl (lv_at hl 0 rfl) ?_
  refine lv_aload_n hx hb dX6_next_53 rfl (lv_at hl 0 rfl) ?_
  refine va_get (D := G.1) (ci := 6) (v := .int 39) (C := RX6) (T := TX6) (N := 42) hx hb hts hiX6 hown hK hP 2 rfl rfl 19 (by decide) kf111 (fun _ h9 => h9) rfl dX6_next_54 ?_
  refine va_put (D := G.1) (ci := 6) (v := .int 39) (ty := .int) (C := RX6) (T := TX6) (N := 42) hx hb hts hiX6 tyX6 tyX6_ok nmX6 hown hK hP hD hS 2 rfl rfl 20 (by decide) kf114 (fun _ h9 => h9) rfl (by decide +kernel) rfl rfl (Nat.le_of_ble_eq_true rfl) dX6_next_57 (fun H locs hP hD hS => ?_)
  have hP : va_P G.1 vwCl [(tp, .inl (G.2.1, 160, .inl (gPf tB 40))), (wo, .inl (G.2.1, 96, .inl (gPf tW 96))), (h0, .inr (6, [.int 0, .ref kd, .ref mo, .ref st, .int 0, .ref ro, .ref tp, .int 40, .ref cd, .ref sr, .int 0, .int 0, .int 0, .ref ir, .ref ih, .ref ss, .ref sq, .ref ce, .ref lw, .int 39, .int 39, .int 1, .int 30, .ref wo, .ref he, .int 0, .int 0, .int 5, .ref sk, .ref na, .ref kp, .int 0, .int 0, .int 0, .int 0, .ref gb, .ref go, .ref fa, .ref ga, .int 0, .int 0, .ref vo]))] H := hP
  have hD : va_D A [(tp, .inl (G.2.1, 160, .inl (gPf tB 40))), (wo, .inl (G.2.1, 96, .inl (gPf tW 96))), (h0, .inr (6, [.int 0, .ref kd, .ref mo, .ref st, .int 0, .ref ro, .ref tp, .int 40, .ref cd, .ref sr, .int 0, .int 0, .int 0, .ref ir, .ref ih, .ref ss, .ref sq, .ref ce, .ref lw, .int 39, .int 39, .int 1, .int 30, .ref wo, .ref he, .int 0, .int 0, .int 5, .ref sk, .ref na, .ref kp, .int 0, .int 0, .int 0, .int 0, .ref gb, .ref go, .ref fa, .ref ga, .int 0, .int 0, .ref vo]))] := hD
  refine lv_aload_n hx hb dX6_next_60 rfl (lv_at hl 0 rfl) ?_
  refine lv_iconst (v := 0) hx hb dX6_next_61 (by decide) ?_
  refine va_put (D := G.1) (ci := 6) (v := .int 0) (ty := .int) (C := RX6) (T := TX6) (N := 42) hx hb hts hiX6 tyX6 tyX6_ok nmX6 hown hK hP hD hS 2 rfl rfl 21 (by decide) kf117 (fun _ h9 => h9) rfl (by decide +kernel) rfl rfl (Nat.le_of_ble_eq_true rfl) dX6_next_62 (fun H locs hP hD hS => ?_)
  have hP : va_P G.1 vwCl [(tp, .inl (G.2.1, 160, .inl (gPf tB 40))), (wo, .inl (G.2.1, 96, .inl (gPf tW 96))), (h0, .inr (6, [.int 0, .ref kd, .ref mo, .ref st, .int 0, .ref ro, .ref tp, .int 40, .ref cd, .ref sr, .int 0, .int 0, .int 0, .ref ir, .ref ih, .ref ss, .ref sq, .ref ce, .ref lw, .int 39, .int 39, .int 0, .int 30, .ref wo, .ref he, .int 0, .int 0, .int 5, .ref sk, .ref na, .ref kp, .int 0, .int 0, .int 0, .int 0, .ref gb, .ref go, .ref fa, .ref ga, .int 0, .int 0, .ref vo]))] H := hP
  have hD : va_D A [(tp, .inl (G.2.1, 160, .inl (gPf tB 40))), (wo, .inl (G.2.1, 96, .inl (gPf tW 96))), (h0, .inr (6, [.int 0, .ref kd, .ref mo, .ref st, .int 0, .ref ro, .ref tp, .int 40, .ref cd, .ref sr, .int 0, .int 0, .int 0, .ref ir, .ref ih, .ref ss, .ref sq, .ref ce, .ref lw, .int 39, .int 39, .int 0, .int 30, .ref wo, .ref he, .int 0, .int 0, .int 5, .ref sk, .ref na, .ref kp, .int 0, .int 0, .int 0, .int 0, .ref gb, .ref go, .ref fa, .ref ga, .int 0, .int 0, .ref vo]))] := hD
  refine lv_aload_n hx hb dX6_next_65 rfl (lv_at hl 0 rfl) ?_
  refine lv_iconst (v := 0) hx hb dX6_next_66 (by decide) ?_
  refine va_put (D := G.1) (ci := 6) (v := .int 0) (ty := .int) (C := RX6) (T := TX6) (N := 42) hx hb hts hiX6 tyX6 tyX6_ok nmX6 hown hK hP hD hS 2 rfl rfl 22 (by decide) kf120 (fun _ h9 => h9) rfl (by decide +kernel) rfl rfl (Nat.le_of_ble_eq_true rfl) dX6_next_67 (fun H locs hP hD hS => ?_)
  have hP : va_P G.1 vwCl [(tp, .inl (G.2.1, 160, .inl (gPf tB 40))), (wo, .inl (G.2.1, 96, .inl (gPf tW 96))), (h0, .inr (6, [.int 0, .ref kd, .ref mo, .ref st, .int 0, .ref ro, .ref tp, .int 40, .ref cd, .ref sr, .int 0, .int 0, .int 0, .ref ir, .ref ih, .ref ss, .ref sq, .ref ce, .ref lw, .int 39, .int 39, .int 0, .int 0, .ref wo, .ref he, .int 0, .int 0, .int 5, .ref sk, .ref na, .ref kp, .int 0, .int 0, .int 0, .int 0, .ref gb, .ref go, .ref fa, .ref ga, .int 0, .int 0, .ref vo]))] H := hP
  have hD : va_D A [(tp, .inl (G.2.1, 160, .inl (gPf tB 40))), (wo, .inl (G.2.1, 96, .inl (gPf tW 96))), (h0, .inr (6, [.int 0, .ref kd, .ref mo, .ref st, .int 0, .ref ro, .ref tp, .int 40, .ref cd, .ref sr, .int 0, .int 0, .int 0, .ref ir, .ref ih, .ref ss, .ref sq, .ref ce, .ref lw, .int 39, .int 39, .int 0, .int 0, .ref wo, .ref he, .int 0, .int 0, .int 5, .ref sk, .ref na, .ref kp, .int 0, .int 0, .int 0, .int 0, .ref gb, .ref go, .ref fa, .ref ga, .int 0, .int 0, .ref vo]))] := hD
  refine lv_aload_n hx hb dX6_next_70 rfl (lv_at hl 0 rfl) ?_
  refine va_get (D := G.1) (ci := 6) (v := .int 39) (C := RX6) (T := TX6) (N := 42) hx hb hts hiX6 hown hK hP 2 rfl rfl 19 (by decide) kf111 (fun _ h9 => h9) rfl dX6_next_71 ?_
  refine lv_aload_n hx hb dX6_next_74 rfl (lv_at hl 0 rfl) ?_
  refine va_get (D := G.1) (ci := 6) (v := .int 40) (C := RX6) (T := TX6) (N := 42) hx hb hts hiX6 hown hK hP 2 rfl rfl 7 (by decide) kf80 (fun _ h9 => h9) rfl dX6_next_75 ?_
  refine lv_icmp_ne (tgt := 82) hx hb dX6_next_78 (by decide) (fun c_10 => ?_) (fun c_10 => ?_)
  rotate_left
  · exact absurd c_10 (by decide)
  refine lv_aload_n hx hb dX6_next_82 rfl (lv_at hl 0 rfl) ?_
  refine va_get (D := G.1) (ci := 6) (v := .ref tp) (C := RX6) (T := TX6) (N := 42) hx hb hts hiX6 hown hK hP 2 rfl rfl 6 (by decide) kf22 (fun _ h9 => h9) rfl dX6_next_83 ?_
  refine lv_aload_n hx hb dX6_next_86 rfl (lv_at hl 0 rfl) ?_
  refine va_get (D := G.1) (ci := 6) (v := .int 39) (C := RX6) (T := TX6) (N := 42) hx hb hts hiX6 hown hK hP 2 rfl rfl 19 (by decide) kf111 (fun _ h9 => h9) rfl dX6_next_87 ?_
  refine va_iald (D := G.1) hx hb hK hP 0 0 rfl rfl (i := 39) (gIn (by decide)) dX6_next_90 ?_
  refine lv_topi (fun v_11 ev_11 => ?_)
  have ev_11 : v_11 = 59 := ev_11.trans (by decide)
  subst ev_11
  refine lv_istore_n (lv' := [(1, .int 59), (0, .ref h0)]) hx hb dX6_next_91 rfl hl (by decide) rfl (fun ls hl => ?_)
  refine lv_iload_n hx hb dX6_next_92 rfl (lv_at hl 0 rfl) ?_
  refine lv_bipush (v := 97) hx hb dX6_next_93 (by decide) ?_
  refine lv_bipush (v := 122) hx hb dX6_next_95 (by decide) ?_
  have hPc : va_P G.1 vwCl [] H := hP.sub [] rfl
  have hDc : va_D A [] := hD.sub [] (by decide) rfl
  have hFc := va_free (wc := []) hD hS hA [] rfl
  refine va_calli (va_runS (As := [.int 59, .int 97, .int 122]) (rest := []) ⟨hx, hb, hml, hown, hts⟩ (c_X6_in_z33 l G H.size) (va_cwS 3 hts gX6_next_X6_in rfl rfl rfl (by decide +kernel) ⟨Nat.le_of_ble_eq_true rfl, Nat.le_of_ble_eq_true rfl⟩) ⟨gPre_blind, fun U hU hW => gPre_of hU hW hK hPc hDc⟩ rfl rfl hl.1 rfl (lv_room (Nat.le_of_ble_eq_true rfl)) dX6_next_97 ⟨Nat.le_of_ble_eq_true rfl, Nat.le_of_ble_eq_true rfl⟩) hS (fun q _ h => hFc q h) hFc (fun r_12 u t H locs ht hvm w_13 hB hz1 hk1 hS => ?_)
  obtain ⟨hP1, hK1, hD1⟩ := hB
  rw [ht] at hP1
  have hP1 : va_P G.1 vwCl [] H := hP1
  have hD1 : va_D (va_A [] _) [] := hD1
  have w_13 : r_12 = 0 := w_13
  obtain ⟨hP, hD⟩ := va_join (wr := [(tp, .inl (G.2.1, 160, .inl (gPf tB 40))), (wo, .inl (G.2.1, 96, .inl (gPf tW 96))), (h0, .inr (6, [.int 0, .ref kd, .ref mo, .ref st, .int 0, .ref ro, .ref tp, .int 40, .ref cd, .ref sr, .int 0, .int 0, .int 0, .ref ir, .ref ih, .ref ss, .ref sq, .ref ce, .ref lw, .int 39, .int 39, .int 0, .int 0, .ref wo, .ref he, .int 0, .int 0, .int 5, .ref sk, .ref na, .ref kp, .int 0, .int 0, .int 0, .int 0, .ref gb, .ref go, .ref fa, .ref ga, .int 0, .int 0, .ref vo]))]) (w1 := []) hP hD [] [0, 1, 2] rfl rfl (by decide) (by decide) hk1 hFc hP1 hD1
  have hP : va_P G.1 vwCl [(tp, .inl (G.2.1, 160, .inl (gPf tB 40))), (wo, .inl (G.2.1, 96, .inl (gPf tW 96))), (h0, .inr (6, [.int 0, .ref kd, .ref mo, .ref st, .int 0, .ref ro, .ref tp, .int 40, .ref cd, .ref sr, .int 0, .int 0, .int 0, .ref ir, .ref ih, .ref ss, .ref sq, .ref ce, .ref lw, .int 39, .int 39, .int 0, .int 0, .ref wo, .ref he, .int 0, .int 0, .int 5, .ref sk, .ref na, .ref kp, .int 0, .int 0, .int 0, .int 0, .ref gb, .ref go, .ref fa, .ref ga, .int 0, .int 0, .ref vo]))] H := hP
  have hD : va_D A [(tp, .inl (G.2.1, 160, .inl (gPf tB 40))), (wo, .inl (G.2.1, 96, .inl (gPf tW 96))), (h0, .inr (6, [.int 0, .ref kd, .ref mo, .ref st, .int 0, .ref ro, .ref tp, .int 40, .ref cd, .ref sr, .int 0, .int 0, .int 0, .ref ir, .ref ih, .ref ss, .ref sq, .ref ce, .ref lw, .int 39, .int 39, .int 0, .int 0, .ref wo, .ref he, .int 0, .int 0, .int 5, .ref sk, .ref na, .ref kp, .int 0, .int 0, .int 0, .int 0, .ref gb, .ref go, .ref fa, .ref ga, .int 0, .int 0, .ref vo]))] := hD
  have w_13 : r_12 = 0 := w_13
  subst w_13
  refine lv_if_eq (tgt := 217) hx hb dX6_next_100 (by decide) (fun c_14 => ?_) (fun c_14 => ?_)
  rotate_left
  · exact absurd (by decide) c_14
  refine lv_iload_n hx hb dX6_next_217 rfl (lv_at hl 0 rfl) ?_
  refine lv_bipush (v := 48) hx hb dX6_next_218 (by decide) ?_
  refine lv_bipush (v := 57) hx hb dX6_next_220 (by decide) ?_
  have hPc : va_P G.1 vwCl [] H := hP.sub [] rfl
  have hDc : va_D A [] := hD.sub [] (by decide) rfl
  have hFc := va_free (wc := []) hD hS hA [] rfl
  refine va_calli (va_runS (As := [.int 59, .int 48, .int 57]) (rest := []) ⟨hx, hb, hml, hown, hts⟩ (c_X6_in_z34 l G H.size) (va_cwS 3 hts gX6_next_X6_in rfl rfl rfl (by decide +kernel) ⟨Nat.le_of_ble_eq_true rfl, Nat.le_of_ble_eq_true rfl⟩) ⟨gPre_blind, fun U hU hW => gPre_of hU hW hK hPc hDc⟩ rfl rfl hl.1 rfl (lv_room (Nat.le_of_ble_eq_true rfl)) dX6_next_222 ⟨Nat.le_of_ble_eq_true rfl, Nat.le_of_ble_eq_true rfl⟩) hS (fun q _ h => hFc q h) hFc (fun r_15 u t H locs ht hvm w_16 hB hz1 hk1 hS => ?_)
  obtain ⟨hP1, hK1, hD1⟩ := hB
  rw [ht] at hP1
  have hP1 : va_P G.1 vwCl [] H := hP1
  have hD1 : va_D (va_A [] _) [] := hD1
  have w_16 : r_15 = 0 := w_16
  obtain ⟨hP, hD⟩ := va_join (wr := [(tp, .inl (G.2.1, 160, .inl (gPf tB 40))), (wo, .inl (G.2.1, 96, .inl (gPf tW 96))), (h0, .inr (6, [.int 0, .ref kd, .ref mo, .ref st, .int 0, .ref ro, .ref tp, .int 40, .ref cd, .ref sr, .int 0, .int 0, .int 0, .ref ir, .ref ih, .ref ss, .ref sq, .ref ce, .ref lw, .int 39, .int 39, .int 0, .int 0, .ref wo, .ref he, .int 0, .int 0, .int 5, .ref sk, .ref na, .ref kp, .int 0, .int 0, .int 0, .int 0, .ref gb, .ref go, .ref fa, .ref ga, .int 0, .int 0, .ref vo]))]) (w1 := []) hP hD [] [0, 1, 2] rfl rfl (by decide) (by decide) hk1 hFc hP1 hD1
  have hP : va_P G.1 vwCl [(tp, .inl (G.2.1, 160, .inl (gPf tB 40))), (wo, .inl (G.2.1, 96, .inl (gPf tW 96))), (h0, .inr (6, [.int 0, .ref kd, .ref mo, .ref st, .int 0, .ref ro, .ref tp, .int 40, .ref cd, .ref sr, .int 0, .int 0, .int 0, .ref ir, .ref ih, .ref ss, .ref sq, .ref ce, .ref lw, .int 39, .int 39, .int 0, .int 0, .ref wo, .ref he, .int 0, .int 0, .int 5, .ref sk, .ref na, .ref kp, .int 0, .int 0, .int 0, .int 0, .ref gb, .ref go, .ref fa, .ref ga, .int 0, .int 0, .ref vo]))] H := hP
  have hD : va_D A [(tp, .inl (G.2.1, 160, .inl (gPf tB 40))), (wo, .inl (G.2.1, 96, .inl (gPf tW 96))), (h0, .inr (6, [.int 0, .ref kd, .ref mo, .ref st, .int 0, .ref ro, .ref tp, .int 40, .ref cd, .ref sr, .int 0, .int 0, .int 0, .ref ir, .ref ih, .ref ss, .ref sq, .ref ce, .ref lw, .int 39, .int 39, .int 0, .int 0, .ref wo, .ref he, .int 0, .int 0, .int 5, .ref sk, .ref na, .ref kp, .int 0, .int 0, .int 0, .int 0, .ref gb, .ref go, .ref fa, .ref ga, .int 0, .int 0, .ref vo]))] := hD
  have w_16 : r_15 = 0 := w_16
  subst w_16
  refine lv_if_eq (tgt := 326) hx hb dX6_next_225 (by decide) (fun c_17 => ?_) (fun c_17 => ?_)
  rotate_left
  · exact absurd (by decide) c_17
  refine lv_iload_n hx hb dX6_next_326 rfl (lv_at hl 0 rfl) ?_
  refine lv_bipush (v := 40) hx hb dX6_next_327 (by decide) ?_
  refine lv_icmp_eq (tgt := 374) hx hb dX6_next_329 (by decide) (fun c_18 => ?_) (fun c_18 => ?_)
  · exact absurd c_18 (by decide)
  refine lv_iload_n hx hb dX6_next_332 rfl (lv_at hl 0 rfl) ?_
  refine lv_bipush (v := 41) hx hb dX6_next_333 (by decide) ?_
  refine lv_icmp_eq (tgt := 374) hx hb dX6_next_335 (by decide) (fun c_19 => ?_) (fun c_19 => ?_)
  · exact absurd c_19 (by decide)
  refine lv_iload_n hx hb dX6_next_338 rfl (lv_at hl 0 rfl) ?_
  refine lv_bipush (v := 59) hx hb dX6_next_339 (by decide) ?_
  refine lv_icmp_eq (tgt := 374) hx hb dX6_next_341 (by decide) (fun c_20 => ?_) (fun c_20 => ?_)
  rotate_left
  · exact absurd (by decide) c_20
  refine lv_iconst (v := 1) hx hb dX6_next_374 (by decide) ?_
  refine lv_goto (tgt := 379) hx hb dX6_next_375 (by decide) ?_
  refine lv_istore_n (lv' := [(2, .int 1), (1, .int 59), (0, .ref h0)]) hx hb dX6_next_379 rfl hl (by decide) rfl (fun ls hl => ?_)
  refine lv_aload_n hx hb dX6_next_380 rfl (lv_at hl 2 rfl) ?_
  refine lv_iload_n hx hb dX6_next_381 rfl (lv_at hl 0 rfl) ?_
  refine lv_if_eq (tgt := 389) hx hb dX6_next_382 (by decide) (fun c_21 => ?_) (fun c_21 => ?_)
  · exact absurd c_21 (by decide)
  refine lv_iload_n hx hb dX6_next_385 rfl (lv_at hl 1 rfl) ?_
  refine lv_goto (tgt := 390) hx hb dX6_next_386 (by decide) ?_
  refine va_put (D := G.1) (ci := 6) (v := .int 59) (ty := .int) (C := RX6) (T := TX6) (N := 42) hx hb hts hiX6 tyX6 tyX6_ok nmX6 hown hK hP hD hS 2 rfl rfl 21 (by decide) kf117 (fun _ h9 => h9) rfl (by decide +kernel) rfl rfl (Nat.le_of_ble_eq_true rfl) dX6_next_390 (fun H locs hP hD hS => ?_)
  have hP : va_P G.1 vwCl [(tp, .inl (G.2.1, 160, .inl (gPf tB 40))), (wo, .inl (G.2.1, 96, .inl (gPf tW 96))), (h0, .inr (6, [.int 0, .ref kd, .ref mo, .ref st, .int 0, .ref ro, .ref tp, .int 40, .ref cd, .ref sr, .int 0, .int 0, .int 0, .ref ir, .ref ih, .ref ss, .ref sq, .ref ce, .ref lw, .int 39, .int 39, .int 59, .int 0, .ref wo, .ref he, .int 0, .int 0, .int 5, .ref sk, .ref na, .ref kp, .int 0, .int 0, .int 0, .int 0, .ref gb, .ref go, .ref fa, .ref ga, .int 0, .int 0, .ref vo]))] H := hP
  have hD : va_D A [(tp, .inl (G.2.1, 160, .inl (gPf tB 40))), (wo, .inl (G.2.1, 96, .inl (gPf tW 96))), (h0, .inr (6, [.int 0, .ref kd, .ref mo, .ref st, .int 0, .ref ro, .ref tp, .int 40, .ref cd, .ref sr, .int 0, .int 0, .int 0, .ref ir, .ref ih, .ref ss, .ref sq, .ref ce, .ref lw, .int 39, .int 39, .int 59, .int 0, .ref wo, .ref he, .int 0, .int 0, .int 5, .ref sk, .ref na, .ref kp, .int 0, .int 0, .int 0, .int 0, .ref gb, .ref go, .ref fa, .ref ga, .int 0, .int 0, .ref vo]))] := hD
  refine lv_aload_n hx hb dX6_next_393 rfl (lv_at hl 2 rfl) ?_
  refine lv_dup hx hb dX6_next_394 rfl ?_
  refine va_get (D := G.1) (ci := 6) (v := .int 39) (C := RX6) (T := TX6) (N := 42) hx hb hts hiX6 hown hK hP 2 rfl rfl 19 (by decide) kf111 (fun _ h9 => h9) rfl dX6_next_395 ?_
  refine lv_iconst (v := 1) hx hb dX6_next_398 (by decide) ?_
  refine lv_iadd hx hb dX6_next_399 ?_
  refine lv_topi (fun v_22 ev_22 => ?_)
  have ev_22 : v_22 = 40 := ev_22.trans (by decide)
  subst ev_22
  refine va_put (D := G.1) (ci := 6) (v := .int 40) (ty := .int) (C := RX6) (T := TX6) (N := 42) hx hb hts hiX6 tyX6 tyX6_ok nmX6 hown hK hP hD hS 2 rfl rfl 19 (by decide) kf111 (fun _ h9 => h9) rfl (by decide +kernel) rfl rfl (Nat.le_of_ble_eq_true rfl) dX6_next_400 (fun H locs hP hD hS => ?_)
  have hP : va_P G.1 vwCl [(tp, .inl (G.2.1, 160, .inl (gPf tB 40))), (wo, .inl (G.2.1, 96, .inl (gPf tW 96))), (h0, .inr (6, [.int 0, .ref kd, .ref mo, .ref st, .int 0, .ref ro, .ref tp, .int 40, .ref cd, .ref sr, .int 0, .int 0, .int 0, .ref ir, .ref ih, .ref ss, .ref sq, .ref ce, .ref lw, .int 40, .int 39, .int 59, .int 0, .ref wo, .ref he, .int 0, .int 0, .int 5, .ref sk, .ref na, .ref kp, .int 0, .int 0, .int 0, .int 0, .ref gb, .ref go, .ref fa, .ref ga, .int 0, .int 0, .ref vo]))] H := hP
  have hD : va_D A [(tp, .inl (G.2.1, 160, .inl (gPf tB 40))), (wo, .inl (G.2.1, 96, .inl (gPf tW 96))), (h0, .inr (6, [.int 0, .ref kd, .ref mo, .ref st, .int 0, .ref ro, .ref tp, .int 40, .ref cd, .ref sr, .int 0, .int 0, .int 0, .ref ir, .ref ih, .ref ss, .ref sq, .ref ce, .ref lw, .int 40, .int 39, .int 59, .int 0, .ref wo, .ref he, .int 0, .int 0, .int 5, .ref sk, .ref na, .ref kp, .int 0, .int 0, .int 0, .int 0, .ref gb, .ref go, .ref fa, .ref ga, .int 0, .int 0, .ref vo]))] := hD
  have hP9 := hP.sub (ws' := [(tp, .inl (G.2.1, 160, .inl (gPf tB 40))), (wo, .inl (G.2.1, 96, .inl (gPf tW 96))), (h0, .inr (6, [.int 0, .ref kd, .ref mo, .ref st, .int 0, .ref ro, .ref tp, .int 40, .ref cd, .ref sr, .int 0, .int 0, .int 0, .ref ir, .ref ih, .ref ss, .ref sq, .ref ce, .ref lw, .int 40, .int 39, .int 59, .int 0, .ref wo, .ref he, .int 0, .int 0, .int 5, .ref sk, .ref na, .ref kp, .int 0, .int 0, .int 0, .int 0, .ref gb, .ref go, .ref fa, .ref ga, .int 0, .int 0, .ref vo]))]) [0, 1, 2] rfl
  have hD9 := hD.sub (ws' := [(tp, .inl (G.2.1, 160, .inl (gPf tB 40))), (wo, .inl (G.2.1, 96, .inl (gPf tW 96))), (h0, .inr (6, [.int 0, .ref kd, .ref mo, .ref st, .int 0, .ref ro, .ref tp, .int 40, .ref cd, .ref sr, .int 0, .int 0, .int 0, .ref ir, .ref ih, .ref ss, .ref sq, .ref ce, .ref lw, .int 40, .int 39, .int 59, .int 0, .ref wo, .ref he, .int 0, .int 0, .int 5, .ref sk, .ref na, .ref kp, .int 0, .int 0, .int 0, .int 0, .ref gb, .ref go, .ref fa, .ref ga, .int 0, .int 0, .ref vo]))]) [0, 1, 2] (by decide) rfl
  have hpost : (fun (u : Unit) => match u with | _ => True) () := by first | rfl | trivial
  exact W.vret hx hb hr (fun t ht hW => ⟨⟨(), rfl, hpost, by rw [ht]; exact hP9, va_K.moved hW.alike hK, hD9⟩, hS.F ht⟩) hS.2.2 dX6_next_403
abbrev q_X6_unwinds_z61 (G : gG) (h0 he cd kd mo st ro tp sr ir ih ss sq ce lw wo sk na kp gb go fa ga vo : Nat) (A : Nat → Prop) : Array Value → State → Outcome → State → Prop := va_Qv (fun (u : Unit) => match u with | _ => True) (fun (u : Unit) t => match u with | _ => va_P G.1 vwCl [(he, .inl (G.2.1, 200, .inl (upd (fun _ => 0) 0 17))), (cd, .inl (G.2.1, 1200, .inl (upd (upd (upd (upd (upd (fun _ => 0) 0 0) 1 1) 2 17) 3 100001) 4 100030))), (h0, .inr (6, [.int 0, .ref kd, .ref mo, .ref st, .int 0, .ref ro, .ref tp, .int 40, .ref cd, .ref sr, .int 0, .int 0, .int 0, .ref ir, .ref ih, .ref ss, .ref sq, .ref ce, .ref lw, .int 40, .int 39, .int 59, .int 0, .ref wo, .ref he, .int 0, .int 0, .int 5, .ref sk, .ref na, .ref kp, .int 0, .int 0, .int 0, .int 0, .ref gb, .ref go, .ref fa, .ref ga, .int 0, .int 0, .ref vo]))] t.heap ∧ gK G t ∧ va_D A [(he, .inl (G.2.1, 200, .inl (upd (fun _ => 0) 0 17))), (cd, .inl (G.2.1, 1200, .inl (upd (upd (upd (upd (upd (fun _ => 0) 0 0) 1 1) 2 17) 3 100001) 4 100030))), (h0, .inr (6, [.int 0, .ref kd, .ref mo, .ref st, .int 0, .ref ro, .ref tp, .int 40, .ref cd, .ref sr, .int 0, .int 0, .int 0, .ref ir, .ref ih, .ref ss, .ref sq, .ref ce, .ref lw, .int 40, .int 39, .int 59, .int 0, .ref wo, .ref he, .int 0, .int 0, .int 5, .ref sk, .ref na, .ref kp, .int 0, .int 0, .int 0, .int 0, .ref gb, .ref go, .ref fa, .ref ga, .int 0, .int 0, .ref vo]))]) A
set_option maxHeartbeats 4000000 in
set_option maxRecDepth 100000 in
theorem c_X6_unwinds_z61 (l : Launch) (G : gG) (h0 he cd kd mo st ro tp sr ir ih ss sq ce lw wo sk na kp gb go fa ga vo : Nat) (sz : Nat) : Met l yX6_unwinds wsX6_unwinds ({ frames := 0, cells := 0, slots := 0, locals := 0 }) (gPre G [.ref h0, .int 1] [(he, .inl (G.2.1, 200, .inl (upd (fun _ => 0) 0 17))), (cd, .inl (G.2.1, 1200, .inl (upd (upd (upd (upd (upd (fun _ => 0) 0 0) 1 1) 2 17) 3 100001) 4 100030))), (h0, .inr (6, [.int 0, .ref kd, .ref mo, .ref st, .int 0, .ref ro, .ref tp, .int 40, .ref cd, .ref sr, .int 0, .int 0, .int 0, .ref ir, .ref ih, .ref ss, .ref sq, .ref ce, .ref lw, .int 40, .int 39, .int 59, .int 0, .ref wo, .ref he, .int 0, .int 0, .int 5, .ref sk, .ref na, .ref kp, .int 0, .int 0, .int 0, .int 0, .ref gb, .ref go, .ref fa, .ref ga, .int 0, .int 0, .ref vo]))] sz) (q_X6_unwinds_z61 G h0 he cd kd mo st ro tp sr ir ih ss sq ce lw wo sk na kp gb go fa ga vo (va_A [(he, .inl (G.2.1, 200, .inl (upd (fun _ => 0) 0 17))), (cd, .inl (G.2.1, 1200, .inl (upd (upd (upd (upd (upd (fun _ => 0) 0 0) 1 1) 2 17) 3 100001) 4 100030))), (h0, .inr (6, [.int 0, .ref kd, .ref mo, .ref st, .int 0, .ref ro, .ref tp, .int 40, .ref cd, .ref sr, .int 0, .int 0, .int 0, .ref ir, .ref ih, .ref ss, .ref sq, .ref ce, .ref lw, .int 40, .int 39, .int 59, .int 0, .ref wo, .ref he, .int 0, .int 0, .int 5, .ref sk, .ref na, .ref kp, .int 0, .int 0, .int 0, .int 0, .ref gb, .ref go, .ref fa, .ref ga, .int 0, .int 0, .ref vo]))] sz)) 0 0 (va_A [(he, .inl (G.2.1, 200, .inl (upd (fun _ => 0) 0 17))), (cd, .inl (G.2.1, 1200, .inl (upd (upd (upd (upd (upd (fun _ => 0) 0 0) 1 1) 2 17) 3 100001) 4 100030))), (h0, .inr (6, [.int 0, .ref kd, .ref mo, .ref st, .int 0, .ref ro, .ref tp, .int 40, .ref cd, .ref sr, .int 0, .int 0, .int 0, .ref ir, .ref ih, .ref ss, .ref sq, .ref ce, .ref lw, .int 40, .int 39, .int 59, .int 0, .ref wo, .ref he, .int 0, .int 0, .int 5, .ref sk, .ref na, .ref kp, .int 0, .int 0, .int 0, .int 0, .ref gb, .ref go, .ref fa, .ref ga, .int 0, .int 0, .ref vo]))] sz) := by
  refine Met.ofW (cc := cX6_unwinds) (maxL := 3) (ret := none) (by decide) rfl ?_
  intro p e s m args below meth c s₁ B hml hv
  obtain ⟨rfl, hsz, hP, hK, hD0⟩ := hv
  have hx := B.exec
  have hb := B.bytes
  have hr := B.returns
  have hts := atoms_spec (ws := wsX6_unwinds) B.pre
  have hown : s.vm.findClass RX6 = some m.cls := findClass_of_methodNamed B.named
  have hlocks := B.notSynchronized
  subst hsz
  have hD := hD0.self (sz := s.heap.size)
  generalize hAe : va_A [(he, .inl (G.2.1, 200, .inl (upd (fun _ => 0) 0 17))), (cd, .inl (G.2.1, 1200, .inl (upd (upd (upd (upd (upd (fun _ => 0) 0 0) 1 1) 2 17) 3 100001) 4 100030))), (h0, .inr (6, [.int 0, .ref kd, .ref mo, .ref st, .int 0, .ref ro, .ref tp, .int 40, .ref cd, .ref sr, .int 0, .int 0, .int 0, .ref ir, .ref ih, .ref ss, .ref sq, .ref ce, .ref lw, .int 40, .int 39, .int 59, .int 0, .ref wo, .ref he, .int 0, .int 0, .int 5, .ref sk, .ref na, .ref kp, .int 0, .int 0, .int 0, .int 0, .ref gb, .ref go, .ref fa, .ref ga, .int 0, .int 0, .ref vo]))] s.heap.size = A at hD ⊢
  have hA : ∀ q : Nat, s.heap.size ≤ q → A q := fun q h => by rw [← hAe]; exact Or.inr h
  have hS : va_S A s.heap s.heap [] := va_S.rf
  have hP : va_P G.1 vwCl [(he, .inl (G.2.1, 200, .inl (upd (fun _ => 0) 0 17))), (cd, .inl (G.2.1, 1200, .inl (upd (upd (upd (upd (upd (fun _ => 0) 0 0) 1 1) 2 17) 3 100001) 4 100030))), (h0, .inr (6, [.int 0, .ref kd, .ref mo, .ref st, .int 0, .ref ro, .ref tp, .int 40, .ref cd, .ref sr, .int 0, .int 0, .int 0, .ref ir, .ref ih, .ref ss, .ref sq, .ref ce, .ref lw, .int 40, .int 39, .int 59, .int 0, .ref wo, .ref he, .int 0, .int 0, .int 5, .ref sk, .ref na, .ref kp, .int 0, .int 0, .int 0, .int 0, .ref gb, .ref go, .ref fa, .ref ga, .int 0, .int 0, .ref vo]))] s.heap := hP
  have hD : va_D A [(he, .inl (G.2.1, 200, .inl (upd (fun _ => 0) 0 17))), (cd, .inl (G.2.1, 1200, .inl (upd (upd (upd (upd (upd (fun _ => 0) 0 0) 1 1) 2 17) 3 100001) 4 100030))), (h0, .inr (6, [.int 0, .ref kd, .ref mo, .ref st, .int 0, .ref ro, .ref tp, .int 40, .ref cd, .ref sr, .int 0, .int 0, .int 0, .ref ir, .ref ih, .ref ss, .ref sq, .ref ce, .ref lw, .int 40, .int 39, .int 59, .int 0, .ref wo, .ref he, .int 0, .int 0, .int 5, .ref sk, .ref na, .ref kp, .int 0, .int 0, .int 0, .int 0, .ref gb, .ref go, .ref fa, .ref ga, .int 0, .int 0, .ref vo]))] := hD
  have hl := lv_entry ([.ref h0, .int 1]) (n := 3) (Nat.le_of_ble_eq_true rfl)
  rw [lg_entry_eq]
  generalize (lg_sl ([.ref h0, .int 1]) ++ List.replicate (3 - (lg_sl ([.ref h0, .int 1])).length) Slot.unset).toArray = ls at hl ⊢
  have hl : lv_has ls 3 [(0, .ref h0), (1, .int 1)] := hl
  have kf130 := hts (.fieldLink RX6 130 "PebbleInShoeModel" "heldMany" "I") (by decide +kernel)
  have hiX6 := (by decide +kernel : ∀ w ∈ wsX60, w ∈ wsX6_unwinds)
  refine lv_aload_n hx hb dX6_unwinds_0 rfl (lv_at hl 0 rfl) ?_
  refine va_get (D := G.1) (ci := 6) (v := .int 0) (C := RX6) (T := TX6) (N := 42) hx hb hts hiX6 hown hK hP 2 rfl rfl 25 (by decide) kf130 (fun _ h9 => h9) rfl dX6_unwinds_1 ?_
  refine lv_if_le (tgt := 79) hx hb dX6_unwinds_4 (by decide) (fun c_1 => ?_) (fun c_1 => ?_)
  rotate_left
  · exact absurd (by decide) c_1
  have hP9 := hP.sub (ws' := [(he, .inl (G.2.1, 200, .inl (upd (fun _ => 0) 0 17))), (cd, .inl (G.2.1, 1200, .inl (upd (upd (upd (upd (upd (fun _ => 0) 0 0) 1 1) 2 17) 3 100001) 4 100030))), (h0, .inr (6, [.int 0, .ref kd, .ref mo, .ref st, .int 0, .ref ro, .ref tp, .int 40, .ref cd, .ref sr, .int 0, .int 0, .int 0, .ref ir, .ref ih, .ref ss, .ref sq, .ref ce, .ref lw, .int 40, .int 39, .int 59, .int 0, .ref wo, .ref he, .int 0, .int 0, .int 5, .ref sk, .ref na, .ref kp, .int 0, .int 0, .int 0, .int 0, .ref gb, .ref go, .ref fa, .ref ga, .int 0, .int 0, .ref vo]))]) [0, 1, 2] rfl
  have hD9 := hD.sub (ws' := [(he, .inl (G.2.1, 200, .inl (upd (fun _ => 0) 0 17))), (cd, .inl (G.2.1, 1200, .inl (upd (upd (upd (upd (upd (fun _ => 0) 0 0) 1 1) 2 17) 3 100001) 4 100030))), (h0, .inr (6, [.int 0, .ref kd, .ref mo, .ref st, .int 0, .ref ro, .ref tp, .int 40, .ref cd, .ref sr, .int 0, .int 0, .int 0, .ref ir, .ref ih, .ref ss, .ref sq, .ref ce, .ref lw, .int 40, .int 39, .int 59, .int 0, .ref wo, .ref he, .int 0, .int 0, .int 5, .ref sk, .ref na, .ref kp, .int 0, .int 0, .int 0, .int 0, .ref gb, .ref go, .ref fa, .ref ga, .int 0, .int 0, .ref vo]))]) [0, 1, 2] (by decide) rfl
  have hpost : (fun (u : Unit) => match u with | _ => True) () := by first | rfl | trivial
  exact W.vret hx hb hr (fun t ht hW => ⟨⟨(), rfl, hpost, by rw [ht]; exact hP9, va_K.moved hW.alike hK, hD9⟩, hS.F ht⟩) hS.2.2 dX6_unwinds_79
abbrev q_X6_eRead_z53 (G : gG) (h0 cd he kd mo st ro tp sr ir ih ss sq ce lw wo sk na kp gb go fa ga vo : Nat) (A : Nat → Prop) : Array Value → State → Outcome → State → Prop := va_Qi (fun (r : Int32) (u : Unit) => match u with | _ => r = 1) (fun (u : Unit) t => match u with | _ => va_P G.1 vwCl [(cd, .inl (G.2.1, 1200, .inl (upd (upd (upd (upd (upd (fun _ => 0) 0 0) 1 1) 2 17) 3 100001) 4 100030))), (he, .inl (G.2.1, 200, .inl (upd (fun _ => 0) 0 17))), (h0, .inr (6, [.int 0, .ref kd, .ref mo, .ref st, .int 0, .ref ro, .ref tp, .int 40, .ref cd, .ref sr, .int 0, .int 0, .int 0, .ref ir, .ref ih, .ref ss, .ref sq, .ref ce, .ref lw, .int 40, .int 39, .int 59, .int 0, .ref wo, .ref he, .int 0, .int 0, .int 5, .ref sk, .ref na, .ref kp, .int 0, .int 0, .int 0, .int 0, .ref gb, .ref go, .ref fa, .ref ga, .int 0, .int 0, .ref vo])), (tp, .inl (G.2.1, 160, .inl (gPf tB 40))), (wo, .inl (G.2.1, 96, .inl (gPf tW 96)))] t.heap ∧ gK G t ∧ va_D A [(cd, .inl (G.2.1, 1200, .inl (upd (upd (upd (upd (upd (fun _ => 0) 0 0) 1 1) 2 17) 3 100001) 4 100030))), (he, .inl (G.2.1, 200, .inl (upd (fun _ => 0) 0 17))), (h0, .inr (6, [.int 0, .ref kd, .ref mo, .ref st, .int 0, .ref ro, .ref tp, .int 40, .ref cd, .ref sr, .int 0, .int 0, .int 0, .ref ir, .ref ih, .ref ss, .ref sq, .ref ce, .ref lw, .int 40, .int 39, .int 59, .int 0, .ref wo, .ref he, .int 0, .int 0, .int 5, .ref sk, .ref na, .ref kp, .int 0, .int 0, .int 0, .int 0, .ref gb, .ref go, .ref fa, .ref ga, .int 0, .int 0, .ref vo])), (tp, .inl (G.2.1, 160, .inl (gPf tB 40))), (wo, .inl (G.2.1, 96, .inl (gPf tW 96)))]) A
set_option maxHeartbeats 4000000 in
set_option maxRecDepth 100000 in
theorem c_X6_eRead_z53 (l : Launch) (G : gG) (h0 cd he kd mo st ro tp sr ir ih ss sq ce lw wo sk na kp gb go fa ga vo : Nat) (sz : Nat) : Met l yX6_eRead wsX6_eRead ({ frames := 2, cells := 0, slots := 0, locals := 44 }) (gPre G [.ref h0] [(cd, .inl (G.2.1, 1200, .inl (upd (upd (upd (upd (fun _ => 0) 0 0) 1 1) 2 17) 3 100001))), (he, .inl (G.2.1, 200, .inl (upd (fun _ => 0) 0 17))), (h0, .inr (6, [.int 0, .ref kd, .ref mo, .ref st, .int 0, .ref ro, .ref tp, .int 40, .ref cd, .ref sr, .int 0, .int 0, .int 0, .ref ir, .ref ih, .ref ss, .ref sq, .ref ce, .ref lw, .int 35, .int 31, .int 3, .int 2, .ref wo, .ref he, .int 0, .int 0, .int 4, .ref sk, .ref na, .ref kp, .int 0, .int 0, .int 0, .int 0, .ref gb, .ref go, .ref fa, .ref ga, .int 0, .int 0, .ref vo])), (tp, .inl (G.2.1, 160, .inl (gPf tB 40))), (wo, .inl (G.2.1, 96, .inl (gPf tW 96)))] sz) (q_X6_eRead_z53 G h0 cd he kd mo st ro tp sr ir ih ss sq ce lw wo sk na kp gb go fa ga vo (va_A [(cd, .inl (G.2.1, 1200, .inl (upd (upd (upd (upd (fun _ => 0) 0 0) 1 1) 2 17) 3 100001))), (he, .inl (G.2.1, 200, .inl (upd (fun _ => 0) 0 17))), (h0, .inr (6, [.int 0, .ref kd, .ref mo, .ref st, .int 0, .ref ro, .ref tp, .int 40, .ref cd, .ref sr, .int 0, .int 0, .int 0, .ref ir, .ref ih, .ref ss, .ref sq, .ref ce, .ref lw, .int 35, .int 31, .int 3, .int 2, .ref wo, .ref he, .int 0, .int 0, .int 4, .ref sk, .ref na, .ref kp, .int 0, .int 0, .int 0, .int 0, .ref gb, .ref go, .ref fa, .ref ga, .int 0, .int 0, .ref vo])), (tp, .inl (G.2.1, 160, .inl (gPf tB 40))), (wo, .inl (G.2.1, 96, .inl (gPf tW 96)))] sz)) 0 0 (va_A [(cd, .inl (G.2.1, 1200, .inl (upd (upd (upd (upd (fun _ => 0) 0 0) 1 1) 2 17) 3 100001))), (he, .inl (G.2.1, 200, .inl (upd (fun _ => 0) 0 17))), (h0, .inr (6, [.int 0, .ref kd, .ref mo, .ref st, .int 0, .ref ro, .ref tp, .int 40, .ref cd, .ref sr, .int 0, .int 0, .int 0, .ref ir, .ref ih, .ref ss, .ref sq, .ref ce, .ref lw, .int 35, .int 31, .int 3, .int 2, .ref wo, .ref he, .int 0, .int 0, .int 4, .ref sk, .ref na, .ref kp, .int 0, .int 0, .int 0, .int 0, .ref gb, .ref go, .ref fa, .ref ga, .int 0, .int 0, .ref vo])), (tp, .inl (G.2.1, 160, .inl (gPf tB 40))), (wo, .inl (G.2.1, 96, .inl (gPf tW 96)))] sz) := by
  refine Met.ofW (cc := cX6_eRead) (maxL := 4) (ret := (some .boolean)) (by decide) rfl ?_
  intro p e s m args below meth c s₁ B hml hv
  obtain ⟨rfl, hsz, hP, hK, hD0⟩ := hv
  have hx := B.exec
  have hb := B.bytes
  have hr := B.returns
  have hts := atoms_spec (ws := wsX6_eRead) B.pre
  have hown : s.vm.findClass RX6 = some m.cls := findClass_of_methodNamed B.named
  have hlocks := B.notSynchronized
  subst hsz
  have hD := hD0.self (sz := s.heap.size)
  generalize hAe : va_A [(cd, .inl (G.2.1, 1200, .inl (upd (upd (upd (upd (fun _ => 0) 0 0) 1 1) 2 17) 3 100001))), (he, .inl (G.2.1, 200, .inl (upd (fun _ => 0) 0 17))), (h0, .inr (6, [.int 0, .ref kd, .ref mo, .ref st, .int 0, .ref ro, .ref tp, .int 40, .ref cd, .ref sr, .int 0, .int 0, .int 0, .ref ir, .ref ih, .ref ss, .ref sq, .ref ce, .ref lw, .int 35, .int 31, .int 3, .int 2, .ref wo, .ref he, .int 0, .int 0, .int 4, .ref sk, .ref na, .ref kp, .int 0, .int 0, .int 0, .int 0, .ref gb, .ref go, .ref fa, .ref ga, .int 0, .int 0, .ref vo])), (tp, .inl (G.2.1, 160, .inl (gPf tB 40))), (wo, .inl (G.2.1, 96, .inl (gPf tW 96)))] s.heap.size = A at hD ⊢
  have hA : ∀ q : Nat, s.heap.size ≤ q → A q := fun q h => by rw [← hAe]; exact Or.inr h
  have hS : va_S A s.heap s.heap [] := va_S.rf
  have hP : va_P G.1 vwCl [(cd, .inl (G.2.1, 1200, .inl (upd (upd (upd (upd (fun _ => 0) 0 0) 1 1) 2 17) 3 100001))), (he, .inl (G.2.1, 200, .inl (upd (fun _ => 0) 0 17))), (h0, .inr (6, [.int 0, .ref kd, .ref mo, .ref st, .int 0, .ref ro, .ref tp, .int 40, .ref cd, .ref sr, .int 0, .int 0, .int 0, .ref ir, .ref ih, .ref ss, .ref sq, .ref ce, .ref lw, .int 35, .int 31, .int 3, .int 2, .ref wo, .ref he, .int 0, .int 0, .int 4, .ref sk, .ref na, .ref kp, .int 0, .int 0, .int 0, .int 0, .ref gb, .ref go, .ref fa, .ref ga, .int 0, .int 0, .ref vo])), (tp, .inl (G.2.1, 160, .inl (gPf tB 40))), (wo, .inl (G.2.1, 96, .inl (gPf tW 96)))] s.heap := hP
  have hD : va_D A [(cd, .inl (G.2.1, 1200, .inl (upd (upd (upd (upd (fun _ => 0) 0 0) 1 1) 2 17) 3 100001))), (he, .inl (G.2.1, 200, .inl (upd (fun _ => 0) 0 17))), (h0, .inr (6, [.int 0, .ref kd, .ref mo, .ref st, .int 0, .ref ro, .ref tp, .int 40, .ref cd, .ref sr, .int 0, .int 0, .int 0, .ref ir, .ref ih, .ref ss, .ref sq, .ref ce, .ref lw, .int 35, .int 31, .int 3, .int 2, .ref wo, .ref he, .int 0, .int 0, .int 4, .ref sk, .ref na, .ref kp, .int 0, .int 0, .int 0, .int 0, .ref gb, .ref go, .ref fa, .ref ga, .int 0, .int 0, .ref vo])), (tp, .inl (G.2.1, 160, .inl (gPf tB 40))), (wo, .inl (G.2.1, 96, .inl (gPf tW 96)))] := hD
  have hl := lv_entry ([.ref h0]) (n := 4) (Nat.le_of_ble_eq_true rfl)
  rw [lg_entry_eq]
  generalize (lg_sl ([.ref h0]) ++ List.replicate (4 - (lg_sl ([.ref h0])).length) Slot.unset).toArray = ls at hl ⊢
  have hl : lv_has ls 4 [(0, .ref h0)] := hl
  have kf130 := hts (.fieldLink RX6 130 "PebbleInShoeModel" "heldMany" "I") (by decide +kernel)
  have hiX6 := (by decide +kernel : ∀ w ∈ wsX60, w ∈ wsX6_eRead)
  have kf137 := hts (.fieldLink RX6 137 "PebbleInShoeModel" "opens" "I") (by decide +kernel)
  have kf117 := hts (.fieldLink RX6 117 "PebbleInShoeModel" "token" "I") (by decide +kernel)
  have kf120 := hts (.fieldLink RX6 120 "PebbleInShoeModel" "value" "I") (by decide +kernel)
  refine lv_aload_n hx hb dX6_eRead_0 rfl (lv_at hl 0 rfl) ?_
  refine lv_iconst (v := 0) hx hb dX6_eRead_1 (by decide) ?_
  refine va_put (D := G.1) (ci := 6) (v := .int 0) (ty := .int) (C := RX6) (T := TX6) (N := 42) hx hb hts hiX6 tyX6 tyX6_ok nmX6 hown hK hP hD hS 2 rfl rfl 25 (by decide) kf130 (fun _ h9 => h9) rfl (by decide +kernel) rfl rfl (Nat.le_of_ble_eq_true rfl) dX6_eRead_2 (fun H locs hP hD hS => ?_)
  have hP : va_P G.1 vwCl [(cd, .inl (G.2.1, 1200, .inl (upd (upd (upd (upd (fun _ => 0) 0 0) 1 1) 2 17) 3 100001))), (he, .inl (G.2.1, 200, .inl (upd (fun _ => 0) 0 17))), (h0, .inr (6, [.int 0, .ref kd, .ref mo, .ref st, .int 0, .ref ro, .ref tp, .int 40, .ref cd, .ref sr, .int 0, .int 0, .int 0, .ref ir, .ref ih, .ref ss, .ref sq, .ref ce, .ref lw, .int 35, .int 31, .int 3, .int 2, .ref wo, .ref he, .int 0, .int 0, .int 4, .ref sk, .ref na, .ref kp, .int 0, .int 0, .int 0, .int 0, .ref gb, .ref go, .ref fa, .ref ga, .int 0, .int 0, .ref vo])), (tp, .inl (G.2.1, 160, .inl (gPf tB 40))), (wo, .inl (G.2.1, 96, .inl (gPf tW 96)))] H := hP
  have hD : va_D A [(cd, .inl (G.2.1, 1200, .inl (upd (upd (upd (upd (fun _ => 0) 0 0) 1 1) 2 17) 3 100001))), (he, .inl (G.2.1, 200, .inl (upd (fun _ => 0) 0 17))), (h0, .inr (6, [.int 0, .ref kd, .ref mo, .ref st, .int 0, .ref ro, .ref tp, .int 40, .ref cd, .ref sr, .int 0, .int 0, .int 0, .ref ir, .ref ih, .ref ss, .ref sq, .ref ce, .ref lw, .int 35, .int 31, .int 3, .int 2, .ref wo, .ref he, .int 0, .int 0, .int 4, .ref sk, .ref na, .ref kp, .int 0, .int 0, .int 0, .int 0, .ref gb, .ref go, .ref fa, .ref ga, .int 0, .int 0, .ref vo])), (tp, .inl (G.2.1, 160, .inl (gPf tB 40))), (wo, .inl (G.2.1, 96, .inl (gPf tW 96)))] := hD
  refine lv_aload_n hx hb dX6_eRead_5 rfl (lv_at hl 0 rfl) ?_
  refine lv_iconst (v := 0) hx hb dX6_eRead_6 (by decide) ?_
  refine va_put (D := G.1) (ci := 6) (v := .int 0) (ty := .int) (C := RX6) (T := TX6) (N := 42) hx hb hts hiX6 tyX6 tyX6_ok nmX6 hown hK hP hD hS 2 rfl rfl 26 (by decide) kf137 (fun _ h9 => h9) rfl (by decide +kernel) rfl rfl (Nat.le_of_ble_eq_true rfl) dX6_eRead_7 (fun H locs hP hD hS => ?_)
  have hP : va_P G.1 vwCl [(cd, .inl (G.2.1, 1200, .inl (upd (upd (upd (upd (fun _ => 0) 0 0) 1 1) 2 17) 3 100001))), (he, .inl (G.2.1, 200, .inl (upd (fun _ => 0) 0 17))), (h0, .inr (6, [.int 0, .ref kd, .ref mo, .ref st, .int 0, .ref ro, .ref tp, .int 40, .ref cd, .ref sr, .int 0, .int 0, .int 0, .ref ir, .ref ih, .ref ss, .ref sq, .ref ce, .ref lw, .int 35, .int 31, .int 3, .int 2, .ref wo, .ref he, .int 0, .int 0, .int 4, .ref sk, .ref na, .ref kp, .int 0, .int 0, .int 0, .int 0, .ref gb, .ref go, .ref fa, .ref ga, .int 0, .int 0, .ref vo])), (tp, .inl (G.2.1, 160, .inl (gPf tB 40))), (wo, .inl (G.2.1, 96, .inl (gPf tW 96)))] H := hP
  have hD : va_D A [(cd, .inl (G.2.1, 1200, .inl (upd (upd (upd (upd (fun _ => 0) 0 0) 1 1) 2 17) 3 100001))), (he, .inl (G.2.1, 200, .inl (upd (fun _ => 0) 0 17))), (h0, .inr (6, [.int 0, .ref kd, .ref mo, .ref st, .int 0, .ref ro, .ref tp, .int 40, .ref cd, .ref sr, .int 0, .int 0, .int 0, .ref ir, .ref ih, .ref ss, .ref sq, .ref ce, .ref lw, .int 35, .int 31, .int 3, .int 2, .ref wo, .ref he, .int 0, .int 0, .int 4, .ref sk, .ref na, .ref kp, .int 0, .int 0, .int 0, .int 0, .ref gb, .ref go, .ref fa, .ref ga, .int 0, .int 0, .ref vo])), (tp, .inl (G.2.1, 160, .inl (gPf tB 40))), (wo, .inl (G.2.1, 96, .inl (gPf tW 96)))] := hD
  refine lv_iconst (v := 1) hx hb dX6_eRead_10 (by decide) ?_
  refine lv_istore_n (lv' := [(1, .int 1), (0, .ref h0)]) hx hb dX6_eRead_11 rfl hl (by decide) rfl (fun ls hl => ?_)
  refine lv_iconst (v := 1) hx hb dX6_eRead_12 (by decide) ?_
  refine lv_istore_n (lv' := [(2, .int 1), (1, .int 1), (0, .ref h0)]) hx hb dX6_eRead_13 rfl hl (by decide) rfl (fun ls hl => ?_)
  refine lv_aload_n hx hb dX6_eRead_14 rfl (lv_at hl 2 rfl) ?_
  have hPc : va_P G.1 vwCl [(h0, .inr (6, [.int 0, .ref kd, .ref mo, .ref st, .int 0, .ref ro, .ref tp, .int 40, .ref cd, .ref sr, .int 0, .int 0, .int 0, .ref ir, .ref ih, .ref ss, .ref sq, .ref ce, .ref lw, .int 35, .int 31, .int 3, .int 2, .ref wo, .ref he, .int 0, .int 0, .int 4, .ref sk, .ref na, .ref kp, .int 0, .int 0, .int 0, .int 0, .ref gb, .ref go, .ref fa, .ref ga, .int 0, .int 0, .ref vo])), (tp, .inl (G.2.1, 160, .inl (gPf tB 40))), (wo, .inl (G.2.1, 96, .inl (gPf tW 96)))] H := hP.sub [2, 3, 4] rfl
  have hDc : va_D A [(h0, .inr (6, [.int 0, .ref kd, .ref mo, .ref st, .int 0, .ref ro, .ref tp, .int 40, .ref cd, .ref sr, .int 0, .int 0, .int 0, .ref ir, .ref ih, .ref ss, .ref sq, .ref ce, .ref lw, .int 35, .int 31, .int 3, .int 2, .ref wo, .ref he, .int 0, .int 0, .int 4, .ref sk, .ref na, .ref kp, .int 0, .int 0, .int 0, .int 0, .ref gb, .ref go, .ref fa, .ref ga, .int 0, .int 0, .ref vo])), (tp, .inl (G.2.1, 160, .inl (gPf tB 40))), (wo, .inl (G.2.1, 96, .inl (gPf tW 96)))] := hD.sub [2, 3, 4] (by decide) rfl
  have hFc := va_free (wc := [(h0, .inr (6, [.int 0, .ref kd, .ref mo, .ref st, .int 0, .ref ro, .ref tp, .int 40, .ref cd, .ref sr, .int 0, .int 0, .int 0, .ref ir, .ref ih, .ref ss, .ref sq, .ref ce, .ref lw, .int 35, .int 31, .int 3, .int 2, .ref wo, .ref he, .int 0, .int 0, .int 4, .ref sk, .ref na, .ref kp, .int 0, .int 0, .int 0, .int 0, .ref gb, .ref go, .ref fa, .ref ga, .int 0, .int 0, .ref vo])), (tp, .inl (G.2.1, 160, .inl (gPf tB 40))), (wo, .inl (G.2.1, 96, .inl (gPf tW 96)))]) hD hS hA [2, 3, 4] rfl
  refine va_callv (va_runV (As := []) (rest := []) ⟨hx, hb, hml, hown, hts⟩ (c_X6_next_z54 l G h0 kd mo st ro tp cd sr ir ih ss sq ce lw wo he sk na kp gb go fa ga vo H.size) (cwV 0 hts gX6_eRead_X6_next rfl rfl rfl (by decide +kernel) ⟨Nat.le_of_ble_eq_true rfl, Nat.le_of_ble_eq_true rfl⟩) ⟨gPre_blind, va_recv hK hPc (ci := 6) (q0 := 0) rfl rfl, fun U hU hW => gPre_of hU hW hK hPc hDc⟩ rfl rfl hl.1 rfl (lv_room (Nat.le_of_ble_eq_true rfl)) dX6_eRead_15 ⟨Nat.le_of_ble_eq_true rfl, Nat.le_of_ble_eq_true rfl⟩) hS (fun q _ h => hFc q h) hFc (fun u t H locs ht hvm w_2 hB hz1 hk1 hS => ?_)
  obtain ⟨hP1, hK1, hD1⟩ := hB
  rw [ht] at hP1
  have hP1 : va_P G.1 vwCl [(h0, .inr (6, [.int 0, .ref kd, .ref mo, .ref st, .int 0, .ref ro, .ref tp, .int 40, .ref cd, .ref sr, .int 0, .int 0, .int 0, .ref ir, .ref ih, .ref ss, .ref sq, .ref ce, .ref lw, .int 38, .int 36, .int 1, .int 30, .ref wo, .ref he, .int 0, .int 0, .int 4, .ref sk, .ref na, .ref kp, .int 0, .int 0, .int 0, .int 0, .ref gb, .ref go, .ref fa, .ref ga, .int 0, .int 0, .ref vo])), (tp, .inl (G.2.1, 160, .inl (gPf tB 40))), (wo, .inl (G.2.1, 96, .inl (gPf tW 96)))] H := hP1
  have hD1 : va_D (va_A [(h0, .inr (6, [.int 0, .ref kd, .ref mo, .ref st, .int 0, .ref ro, .ref tp, .int 40, .ref cd, .ref sr, .int 0, .int 0, .int 0, .ref ir, .ref ih, .ref ss, .ref sq, .ref ce, .ref lw, .int 35, .int 31, .int 3, .int 2, .ref wo, .ref he, .int 0, .int 0, .int 4, .ref sk, .ref na, .ref kp, .int 0, .int 0, .int 0, .int 0, .ref gb, .ref go, .ref fa, .ref ga, .int 0, .int 0, .ref vo])), (tp, .inl (G.2.1, 160, .inl (gPf tB 40))), (wo, .inl (G.2.1, 96, .inl (gPf tW 96)))] _) [(h0, .inr (6, [.int 0, .ref kd, .ref mo, .ref st, .int 0, .ref ro, .ref tp, .int 40, .ref cd, .ref sr, .int 0, .int 0, .int 0, .ref ir, .ref ih, .ref ss, .ref sq, .ref ce, .ref lw, .int 38, .int 36, .int 1, .int 30, .ref wo, .ref he, .int 0, .int 0, .int 4, .ref sk, .ref na, .ref kp, .int 0, .int 0, .int 0, .int 0, .ref gb, .ref go, .ref fa, .ref ga, .int 0, .int 0, .ref vo])), (tp, .inl (G.2.1, 160, .inl (gPf tB 40))), (wo, .inl (G.2.1, 96, .inl (gPf tW 96)))] := hD1
  obtain ⟨hP, hD⟩ := va_join (wr := [(cd, .inl (G.2.1, 1200, .inl (upd (upd (upd (upd (fun _ => 0) 0 0) 1 1) 2 17) 3 100001))), (he, .inl (G.2.1, 200, .inl (upd (fun _ => 0) 0 17)))]) (w1 := [(h0, .inr (6, [.int 0, .ref kd, .ref mo, .ref st, .int 0, .ref ro, .ref tp, .int 40, .ref cd, .ref sr, .int 0, .int 0, .int 0, .ref ir, .ref ih, .ref ss, .ref sq, .ref ce, .ref lw, .int 38, .int 36, .int 1, .int 30, .ref wo, .ref he, .int 0, .int 0, .int 4, .ref sk, .ref na, .ref kp, .int 0, .int 0, .int 0, .int 0, .ref gb, .ref go, .ref fa, .ref ga, .int 0, .int 0, .ref vo])), (tp, .inl (G.2.1, 160, .inl (gPf tB 40))), (wo, .inl (G.2.1, 96, .inl (gPf tW 96)))]) hP hD [2, 3, 4] [0, 1] rfl rfl (by decide) (by decide) hk1 hFc hP1 hD1
  have hP : va_P G.1 vwCl [(cd, .inl (G.2.1, 1200, .inl (upd (upd (upd (upd (fun _ => 0) 0 0) 1 1) 2 17) 3 100001))), (he, .inl (G.2.1, 200, .inl (upd (fun _ => 0) 0 17))), (h0, .inr (6, [.int 0, .ref kd, .ref mo, .ref st, .int 0, .ref ro, .ref tp, .int 40, .ref cd, .ref sr, .int 0, .int 0, .int 0, .ref ir, .ref ih, .ref ss, .ref sq, .ref ce, .ref lw, .int 38, .int 36, .int 1, .int 30, .ref wo, .ref he, .int 0, .int 0, .int 4, .ref sk, .ref na, .ref kp, .int 0, .int 0, .int 0, .int 0, .ref gb, .ref go, .ref fa, .ref ga, .int 0, .int 0, .ref vo])), (tp, .inl (G.2.1, 160, .inl (gPf tB 40))), (wo, .inl (G.2.1, 96, .inl (gPf tW 96)))] H := hP
  have hD : va_D A [(cd, .inl (G.2.1, 1200, .inl (upd (upd (upd (upd (fun _ => 0) 0 0) 1 1) 2 17) 3 100001))), (he, .inl (G.2.1, 200, .inl (upd (fun _ => 0) 0 17))), (h0, .inr (6, [.int 0, .ref kd, .ref mo, .ref st, .int 0, .ref ro, .ref tp, .int 40, .ref cd, .ref sr, .int 0, .int 0, .int 0, .ref ir, .ref ih, .ref ss, .ref sq, .ref ce, .ref lw, .int 38, .int 36, .int 1, .int 30, .ref wo, .ref he, .int 0, .int 0, .int 4, .ref sk, .ref na, .ref kp, .int 0, .int 0, .int 0, .int 0, .ref gb, .ref go, .ref fa, .ref ga, .int 0, .int 0, .ref vo])), (tp, .inl (G.2.1, 160, .inl (gPf tB 40))), (wo, .inl (G.2.1, 96, .inl (gPf tW 96)))] := hD
  refine lv_iload_n hx hb dX6_eRead_18 rfl (lv_at hl 1 rfl) ?_
  refine lv_if_eq (tgt := 150) hx hb dX6_eRead_19 (by decide) (fun c_3 => ?_) (fun c_3 => ?_)
  · exact absurd c_3 (by decide)
  refine lv_aload_n hx hb dX6_eRead_22 rfl (lv_at hl 2 rfl) ?_
  refine va_get (D := G.1) (ci := 6) (v := .int 1) (C := RX6) (T := TX6) (N := 42) hx hb hts hiX6 hown hK hP 2 rfl rfl 21 (by decide) kf117 (fun _ h9 => h9) rfl dX6_eRead_23 ?_
  refine lv_iconst (v := 1) hx hb dX6_eRead_26 (by decide) ?_
  refine lv_icmp_eq (tgt := 38) hx hb dX6_eRead_27 (by decide) (fun c_4 => ?_) (fun c_4 => ?_)
  rotate_left
  · exact absurd (by decide) c_4
  refine lv_aload_n hx hb dX6_eRead_38 rfl (lv_at hl 2 rfl) ?_
  refine lv_aload_n hx hb dX6_eRead_39 rfl (lv_at hl 2 rfl) ?_
  refine va_get (D := G.1) (ci := 6) (v := .int 1) (C := RX6) (T := TX6) (N := 42) hx hb hts hiX6 hown hK hP 2 rfl rfl 21 (by decide) kf117 (fun _ h9 => h9) rfl dX6_eRead_40 ?_
  refine lv_iconst (v := 1) hx hb dX6_eRead_43 (by decide) ?_
  refine lv_icmp_ne (tgt := 57) hx hb dX6_eRead_44 (by decide) (fun c_5 => ?_) (fun c_5 => ?_)
  · exact absurd (by decide) c_5
  refine lv_ldc hx hb hown (hts (.constant RX6 153 (100000)) (by decide +kernel)) dX6_eRead_47 ?_
  refine lv_aload_n hx hb dX6_eRead_49 rfl (lv_at hl 2 rfl) ?_
  refine va_get (D := G.1) (ci := 6) (v := .int 30) (C := RX6) (T := TX6) (N := 42) hx hb hts hiX6 hown hK hP 2 rfl rfl 22 (by decide) kf120 (fun _ h9 => h9) rfl dX6_eRead_50 ?_
  refine lv_iadd hx hb dX6_eRead_53 ?_
  refine lv_topi (fun v_6 ev_6 => ?_)
  have ev_6 : v_6 = 100030 := ev_6.trans (by decide)
  subst ev_6
  refine lv_goto (tgt := 61) hx hb dX6_eRead_54 (by decide) ?_
  have hPc : va_P G.1 vwCl [(cd, .inl (G.2.1, 1200, .inl (upd (upd (upd (upd (fun _ => 0) 0 0) 1 1) 2 17) 3 100001))), (h0, .inr (6, [.int 0, .ref kd, .ref mo, .ref st, .int 0, .ref ro, .ref tp, .int 40, .ref cd, .ref sr, .int 0, .int 0, .int 0, .ref ir, .ref ih, .ref ss, .ref sq, .ref ce, .ref lw, .int 38, .int 36, .int 1, .int 30, .ref wo, .ref he, .int 0, .int 0, .int 4, .ref sk, .ref na, .ref kp, .int 0, .int 0, .int 0, .int 0, .ref gb, .ref go, .ref fa, .ref ga, .int 0, .int 0, .ref vo]))] H := hP.sub [0, 2] rfl
  have hDc : va_D A [(cd, .inl (G.2.1, 1200, .inl (upd (upd (upd (upd (fun _ => 0) 0 0) 1 1) 2 17) 3 100001))), (h0, .inr (6, [.int 0, .ref kd, .ref mo, .ref st, .int 0, .ref ro, .ref tp, .int 40, .ref cd, .ref sr, .int 0, .int 0, .int 0, .ref ir, .ref ih, .ref ss, .ref sq, .ref ce, .ref lw, .int 38, .int 36, .int 1, .int 30, .ref wo, .ref he, .int 0, .int 0, .int 4, .ref sk, .ref na, .ref kp, .int 0, .int 0, .int 0, .int 0, .ref gb, .ref go, .ref fa, .ref ga, .int 0, .int 0, .ref vo]))] := hD.sub [0, 2] (by decide) rfl
  have hFc := va_free (wc := [(cd, .inl (G.2.1, 1200, .inl (upd (upd (upd (upd (fun _ => 0) 0 0) 1 1) 2 17) 3 100001))), (h0, .inr (6, [.int 0, .ref kd, .ref mo, .ref st, .int 0, .ref ro, .ref tp, .int 40, .ref cd, .ref sr, .int 0, .int 0, .int 0, .ref ir, .ref ih, .ref ss, .ref sq, .ref ce, .ref lw, .int 38, .int 36, .int 1, .int 30, .ref wo, .ref he, .int 0, .int 0, .int 4, .ref sk, .ref na, .ref kp, .int 0, .int 0, .int 0, .int 0, .ref gb, .ref go, .ref fa, .ref ga, .int 0, .int 0, .ref vo]))]) hD hS hA [0, 2] rfl
  refine va_callv (va_runV (As := [.int 100030]) (rest := []) ⟨hx, hb, hml, hown, hts⟩ (c_X6_puts_z58 l G h0 cd kd mo st ro tp sr ir ih ss sq ce lw wo he sk na kp gb go fa ga vo H.size) (cwV 1 hts gX6_eRead_X6_puts rfl rfl rfl (by decide +kernel) ⟨Nat.le_of_ble_eq_true rfl, Nat.le_of_ble_eq_true rfl⟩) ⟨gPre_blind, va_recv hK hPc (ci := 6) (q0 := 1) rfl rfl, fun U hU hW => gPre_of hU hW hK hPc hDc⟩ rfl rfl hl.1 rfl (lv_room (Nat.le_of_ble_eq_true rfl)) dX6_eRead_61 ⟨Nat.le_of_ble_eq_true rfl, Nat.le_of_ble_eq_true rfl⟩) hS (fun q _ h => hFc q h) hFc (fun u t H locs ht hvm w_8 hB hz1 hk1 hS => ?_)
  obtain ⟨hP1, hK1, hD1⟩ := hB
  rw [ht] at hP1
  have hP1 : va_P G.1 vwCl [(cd, .inl (G.2.1, 1200, .inl (upd (upd (upd (upd (upd (fun _ => 0) 0 0) 1 1) 2 17) 3 100001) 4 100030))), (h0, .inr (6, [.int 0, .ref kd, .ref mo, .ref st, .int 0, .ref ro, .ref tp, .int 40, .ref cd, .ref sr, .int 0, .int 0, .int 0, .ref ir, .ref ih, .ref ss, .ref sq, .ref ce, .ref lw, .int 38, .int 36, .int 1, .int 30, .ref wo, .ref he, .int 0, .int 0, .int 5, .ref sk, .ref na, .ref kp, .int 0, .int 0, .int 0, .int 0, .ref gb, .ref go, .ref fa, .ref ga, .int 0, .int 0, .ref vo]))] H := hP1
  have hD1 : va_D (va_A [(cd, .inl (G.2.1, 1200, .inl (upd (upd (upd (upd (fun _ => 0) 0 0) 1 1) 2 17) 3 100001))), (h0, .inr (6, [.int 0, .ref kd, .ref mo, .ref st, .int 0, .ref ro, .ref tp, .int 40, .ref cd, .ref sr, .int 0, .int 0, .int 0, .ref ir, .ref ih, .ref ss, .ref sq, .ref ce, .ref lw, .int 38, .int 36, .int 1, .int 30, .ref wo, .ref he, .int 0, .int 0, .int 4, .ref sk, .ref na, .ref kp, .int 0, .int 0, .int 0, .int 0, .ref gb, .ref go, .ref fa, .ref ga, .int 0, .int 0, .ref vo]))] _) [(cd, .inl (G.2.1, 1200, .inl (upd (upd (upd (upd (upd (fun _ => 0) 0 0) 1 1) 2 17) 3 100001) 4 100030))), (h0, .inr (6, [.int 0, .ref kd, .ref mo, .ref st, .int 0, .ref ro, .ref tp, .int 40, .ref cd, .ref sr, .int 0, .int 0, .int 0, .ref ir, .ref ih, .ref ss, .ref sq, .ref ce, .ref lw, .int 38, .int 36, .int 1, .int 30, .ref wo, .ref he, .int 0, .int 0, .int 5, .ref sk, .ref na, .ref kp, .int 0, .int 0, .int 0, .int 0, .ref gb, .ref go, .ref fa, .ref ga, .int 0, .int 0, .ref vo]))] := hD1
  obtain ⟨hP, hD⟩ := va_join (wr := [(he, .inl (G.2.1, 200, .inl (upd (fun _ => 0) 0 17))), (tp, .inl (G.2.1, 160, .inl (gPf tB 40))), (wo, .inl (G.2.1, 96, .inl (gPf tW 96)))]) (w1 := [(cd, .inl (G.2.1, 1200, .inl (upd (upd (upd (upd (upd (fun _ => 0) 0 0) 1 1) 2 17) 3 100001) 4 100030))), (h0, .inr (6, [.int 0, .ref kd, .ref mo, .ref st, .int 0, .ref ro, .ref tp, .int 40, .ref cd, .ref sr, .int 0, .int 0, .int 0, .ref ir, .ref ih, .ref ss, .ref sq, .ref ce, .ref lw, .int 38, .int 36, .int 1, .int 30, .ref wo, .ref he, .int 0, .int 0, .int 5, .ref sk, .ref na, .ref kp, .int 0, .int 0, .int 0, .int 0, .ref gb, .ref go, .ref fa, .ref ga, .int 0, .int 0, .ref vo]))]) hP hD [0, 2] [1, 3, 4] rfl rfl (by decide) (by decide) hk1 hFc hP1 hD1
  have hP : va_P G.1 vwCl [(he, .inl (G.2.1, 200, .inl (upd (fun _ => 0) 0 17))), (tp, .inl (G.2.1, 160, .inl (gPf tB 40))), (wo, .inl (G.2.1, 96, .inl (gPf tW 96))), (cd, .inl (G.2.1, 1200, .inl (upd (upd (upd (upd (upd (fun _ => 0) 0 0) 1 1) 2 17) 3 100001) 4 100030))), (h0, .inr (6, [.int 0, .ref kd, .ref mo, .ref st, .int 0, .ref ro, .ref tp, .int 40, .ref cd, .ref sr, .int 0, .int 0, .int 0, .ref ir, .ref ih, .ref ss, .ref sq, .ref ce, .ref lw, .int 38, .int 36, .int 1, .int 30, .ref wo, .ref he, .int 0, .int 0, .int 5, .ref sk, .ref na, .ref kp, .int 0, .int 0, .int 0, .int 0, .ref gb, .ref go, .ref fa, .ref ga, .int 0, .int 0, .ref vo]))] H := hP
  have hD : va_D A [(he, .inl (G.2.1, 200, .inl (upd (fun _ => 0) 0 17))), (tp, .inl (G.2.1, 160, .inl (gPf tB 40))), (wo, .inl (G.2.1, 96, .inl (gPf tW 96))), (cd, .inl (G.2.1, 1200, .inl (upd (upd (upd (upd (upd (fun _ => 0) 0 0) 1 1) 2 17) 3 100001) 4 100030))), (h0, .inr (6, [.int 0, .ref kd, .ref mo, .ref st, .int 0, .ref ro, .ref tp, .int 40, .ref cd, .ref sr, .int 0, .int 0, .int 0, .ref ir, .ref ih, .ref ss, .ref sq, .ref ce, .ref lw, .int 38, .int 36, .int 1, .int 30, .ref wo, .ref he, .int 0, .int 0, .int 5, .ref sk, .ref na, .ref kp, .int 0, .int 0, .int 0, .int 0, .ref gb, .ref go, .ref fa, .ref ga, .int 0, .int 0, .ref vo]))] := hD
  refine lv_aload_n hx hb dX6_eRead_64 rfl (lv_at hl 2 rfl) ?_
  refine lv_bipush (v := 7) hx hb dX6_eRead_65 (by decide) ?_
  have hPc : va_P G.1 vwCl [(he, .inl (G.2.1, 200, .inl (upd (fun _ => 0) 0 17))), (cd, .inl (G.2.1, 1200, .inl (upd (upd (upd (upd (upd (fun _ => 0) 0 0) 1 1) 2 17) 3 100001) 4 100030))), (h0, .inr (6, [.int 0, .ref kd, .ref mo, .ref st, .int 0, .ref ro, .ref tp, .int 40, .ref cd, .ref sr, .int 0, .int 0, .int 0, .ref ir, .ref ih, .ref ss, .ref sq, .ref ce, .ref lw, .int 38, .int 36, .int 1, .int 30, .ref wo, .ref he, .int 0, .int 0, .int 5, .ref sk, .ref na, .ref kp, .int 0, .int 0, .int 0, .int 0, .ref gb, .ref go, .ref fa, .ref ga, .int 0, .int 0, .ref vo]))] H := hP.sub [0, 3, 4] rfl
  have hDc : va_D A [(he, .inl (G.2.1, 200, .inl (upd (fun _ => 0) 0 17))), (cd, .inl (G.2.1, 1200, .inl (upd (upd (upd (upd (upd (fun _ => 0) 0 0) 1 1) 2 17) 3 100001) 4 100030))), (h0, .inr (6, [.int 0, .ref kd, .ref mo, .ref st, .int 0, .ref ro, .ref tp, .int 40, .ref cd, .ref sr, .int 0, .int 0, .int 0, .ref ir, .ref ih, .ref ss, .ref sq, .ref ce, .ref lw, .int 38, .int 36, .int 1, .int 30, .ref wo, .ref he, .int 0, .int 0, .int 5, .ref sk, .ref na, .ref kp, .int 0, .int 0, .int 0, .int 0, .ref gb, .ref go, .ref fa, .ref ga, .int 0, .int 0, .ref vo]))] := hD.sub [0, 3, 4] (by decide) rfl
  have hFc := va_free (wc := [(he, .inl (G.2.1, 200, .inl (upd (fun _ => 0) 0 17))), (cd, .inl (G.2.1, 1200, .inl (upd (upd (upd (upd (upd (fun _ => 0) 0 0) 1 1) 2 17) 3 100001) 4 100030))), (h0, .inr (6, [.int 0, .ref kd, .ref mo, .ref st, .int 0, .ref ro, .ref tp, .int 40, .ref cd, .ref sr, .int 0, .int 0, .int 0, .ref ir, .ref ih, .ref ss, .ref sq, .ref ce, .ref lw, .int 38, .int 36, .int 1, .int 30, .ref wo, .ref he, .int 0, .int 0, .int 5, .ref sk, .ref na, .ref kp, .int 0, .int 0, .int 0, .int 0, .ref gb, .ref go, .ref fa, .ref ga, .int 0, .int 0, .ref vo]))]) hD hS hA [0, 3, 4] rfl
  refine va_callv (va_runV (As := [.int 7]) (rest := []) ⟨hx, hb, hml, hown, hts⟩ (c_X6_unwinds_z59 l G h0 he cd kd mo st ro tp sr ir ih ss sq ce lw wo sk na kp gb go fa ga vo H.size) (cwV 1 hts gX6_eRead_X6_unwinds rfl rfl rfl (by decide +kernel) ⟨Nat.le_of_ble_eq_true rfl, Nat.le_of_ble_eq_true rfl⟩) ⟨gPre_blind, va_recv hK hPc (ci := 6) (q0 := 2) rfl rfl, fun U hU hW => gPre_of hU hW hK hPc hDc⟩ rfl rfl hl.1 rfl (lv_room (Nat.le_of_ble_eq_true rfl)) dX6_eRead_67 ⟨Nat.le_of_ble_eq_true rfl, Nat.le_of_ble_eq_true rfl⟩) hS (fun q _ h => hFc q h) hFc (fun u t H locs ht hvm w_10 hB hz1 hk1 hS => ?_)
  obtain ⟨hP1, hK1, hD1⟩ := hB
  rw [ht] at hP1
  have hP1 : va_P G.1 vwCl [(he, .inl (G.2.1, 200, .inl (upd (fun _ => 0) 0 17))), (cd, .inl (G.2.1, 1200, .inl (upd (upd (upd (upd (upd (fun _ => 0) 0 0) 1 1) 2 17) 3 100001) 4 100030))), (h0, .inr (6, [.int 0, .ref kd, .ref mo, .ref st, .int 0, .ref ro, .ref tp, .int 40, .ref cd, .ref sr, .int 0, .int 0, .int 0, .ref ir, .ref ih, .ref ss, .ref sq, .ref ce, .ref lw, .int 38, .int 36, .int 1, .int 30, .ref wo, .ref he, .int 0, .int 0, .int 5, .ref sk, .ref na, .ref kp, .int 0, .int 0, .int 0, .int 0, .ref gb, .ref go, .ref fa, .ref ga, .int 0, .int 0, .ref vo]))] H := hP1
  have hD1 : va_D (va_A [(he, .inl (G.2.1, 200, .inl (upd (fun _ => 0) 0 17))), (cd, .inl (G.2.1, 1200, .inl (upd (upd (upd (upd (upd (fun _ => 0) 0 0) 1 1) 2 17) 3 100001) 4 100030))), (h0, .inr (6, [.int 0, .ref kd, .ref mo, .ref st, .int 0, .ref ro, .ref tp, .int 40, .ref cd, .ref sr, .int 0, .int 0, .int 0, .ref ir, .ref ih, .ref ss, .ref sq, .ref ce, .ref lw, .int 38, .int 36, .int 1, .int 30, .ref wo, .ref he, .int 0, .int 0, .int 5, .ref sk, .ref na, .ref kp, .int 0, .int 0, .int 0, .int 0, .ref gb, .ref go, .ref fa, .ref ga, .int 0, .int 0, .ref vo]))] _) [(he, .inl (G.2.1, 200, .inl (upd (fun _ => 0) 0 17))), (cd, .inl (G.2.1, 1200, .inl (upd (upd (upd (upd (upd (fun _ => 0) 0 0) 1 1) 2 17) 3 100001) 4 100030))), (h0, .inr (6, [.int 0, .ref kd, .ref mo, .ref st, .int 0, .ref ro, .ref tp, .int 40, .ref cd, .ref sr, .int 0, .int 0, .int 0, .ref ir, .ref ih, .ref ss, .ref sq, .ref ce, .ref lw, .int 38, .int 36, .int 1, .int 30, .ref wo, .ref he, .int 0, .int 0, .int 5, .ref sk, .ref na, .ref kp, .int 0, .int 0, .int 0, .int 0, .ref gb, .ref go, .ref fa, .ref ga, .int 0, .int 0, .ref vo]))] := hD1
  obtain ⟨hP, hD⟩ := va_join (wr := [(tp, .inl (G.2.1, 160, .inl (gPf tB 40))), (wo, .inl (G.2.1, 96, .inl (gPf tW 96)))]) (w1 := [(he, .inl (G.2.1, 200, .inl (upd (fun _ => 0) 0 17))), (cd, .inl (G.2.1, 1200, .inl (upd (upd (upd (upd (upd (fun _ => 0) 0 0) 1 1) 2 17) 3 100001) 4 100030))), (h0, .inr (6, [.int 0, .ref kd, .ref mo, .ref st, .int 0, .ref ro, .ref tp, .int 40, .ref cd, .ref sr, .int 0, .int 0, .int 0, .ref ir, .ref ih, .ref ss, .ref sq, .ref ce, .ref lw, .int 38, .int 36, .int 1, .int 30, .ref wo, .ref he, .int 0, .int 0, .int 5, .ref sk, .ref na, .ref kp, .int 0, .int 0, .int 0, .int 0, .ref gb, .ref go, .ref fa, .ref ga, .int 0, .int 0, .ref vo]))]) hP hD [0, 3, 4] [1, 2] rfl rfl (by decide) (by decide) hk1 hFc hP1 hD1
  have hP : va_P G.1 vwCl [(tp, .inl (G.2.1, 160, .inl (gPf tB 40))), (wo, .inl (G.2.1, 96, .inl (gPf tW 96))), (he, .inl (G.2.1, 200, .inl (upd (fun _ => 0) 0 17))), (cd, .inl (G.2.1, 1200, .inl (upd (upd (upd (upd (upd (fun _ => 0) 0 0) 1 1) 2 17) 3 100001) 4 100030))), (h0, .inr (6, [.int 0, .ref kd, .ref mo, .ref st, .int 0, .ref ro, .ref tp, .int 40, .ref cd, .ref sr, .int 0, .int 0, .int 0, .ref ir, .ref ih, .ref ss, .ref sq, .ref ce, .ref lw, .int 38, .int 36, .int 1, .int 30, .ref wo, .ref he, .int 0, .int 0, .int 5, .ref sk, .ref na, .ref kp, .int 0, .int 0, .int 0, .int 0, .ref gb, .ref go, .ref fa, .ref ga, .int 0, .int 0, .ref vo]))] H := hP
  have hD : va_D A [(tp, .inl (G.2.1, 160, .inl (gPf tB 40))), (wo, .inl (G.2.1, 96, .inl (gPf tW 96))), (he, .inl (G.2.1, 200, .inl (upd (fun _ => 0) 0 17))), (cd, .inl (G.2.1, 1200, .inl (upd (upd (upd (upd (upd (fun _ => 0) 0 0) 1 1) 2 17) 3 100001) 4 100030))), (h0, .inr (6, [.int 0, .ref kd, .ref mo, .ref st, .int 0, .ref ro, .ref tp, .int 40, .ref cd, .ref sr, .int 0, .int 0, .int 0, .ref ir, .ref ih, .ref ss, .ref sq, .ref ce, .ref lw, .int 38, .int 36, .int 1, .int 30, .ref wo, .ref he, .int 0, .int 0, .int 5, .ref sk, .ref na, .ref kp, .int 0, .int 0, .int 0, .int 0, .ref gb, .ref go, .ref fa, .ref ga, .int 0, .int 0, .ref vo]))] := hD
  refine lv_iconst (v := 0) hx hb dX6_eRead_70 (by decide) ?_
  refine lv_istore_n (lv' := [(1, .int 0), (2, .int 1), (0, .ref h0)]) hx hb dX6_eRead_71 rfl hl (by decide) rfl (fun ls hl => ?_)
  refine lv_goto (tgt := 14) hx hb dX6_eRead_72 (by decide) ?_
  refine lv_aload_n hx hb dX6_eRead_14 rfl (lv_at hl 2 rfl) ?_
  have hPc : va_P G.1 vwCl [(tp, .inl (G.2.1, 160, .inl (gPf tB 40))), (wo, .inl (G.2.1, 96, .inl (gPf tW 96))), (h0, .inr (6, [.int 0, .ref kd, .ref mo, .ref st, .int 0, .ref ro, .ref tp, .int 40, .ref cd, .ref sr, .int 0, .int 0, .int 0, .ref ir, .ref ih, .ref ss, .ref sq, .ref ce, .ref lw, .int 38, .int 36, .int 1, .int 30, .ref wo, .ref he, .int 0, .int 0, .int 5, .ref sk, .ref na, .ref kp, .int 0, .int 0, .int 0, .int 0, .ref gb, .ref go, .ref fa, .ref ga, .int 0, .int 0, .ref vo]))] H := hP.sub [0, 1, 4] rfl
  have hDc : va_D A [(tp, .inl (G.2.1, 160, .inl (gPf tB 40))), (wo, .inl (G.2.1, 96, .inl (gPf tW 96))), (h0, .inr (6, [.int 0, .ref kd, .ref mo, .ref st, .int 0, .ref ro, .ref tp, .int 40, .ref cd, .ref sr, .int 0, .int 0, .int 0, .ref ir, .ref ih, .ref ss, .ref sq, .ref ce, .ref lw, .int 38, .int 36, .int 1, .int 30, .ref wo, .ref he, .int 0, .int 0, .int 5, .ref sk, .ref na, .ref kp, .int 0, .int 0, .int 0, .int 0, .ref gb, .ref go, .ref fa, .ref ga, .int 0, .int 0, .ref vo]))] := hD.sub [0, 1, 4] (by decide) rfl
  have hFc := va_free (wc := [(tp, .inl (G.2.1, 160, .inl (gPf tB 40))), (wo, .inl (G.2.1, 96, .inl (gPf tW 96))), (h0, .inr (6, [.int 0, .ref kd, .ref mo, .ref st, .int 0, .ref ro, .ref tp, .int 40, .ref cd, .ref sr, .int 0, .int 0, .int 0, .ref ir, .ref ih, .ref ss, .ref sq, .ref ce, .ref lw, .int 38, .int 36, .int 1, .int 30, .ref wo, .ref he, .int 0, .int 0, .int 5, .ref sk, .ref na, .ref kp, .int 0, .int 0, .int 0, .int 0, .ref gb, .ref go, .ref fa, .ref ga, .int 0, .int 0, .ref vo]))]) hD hS hA [0, 1, 4] rfl
  refine va_callv (va_runV (As := []) (rest := []) ⟨hx, hb, hml, hown, hts⟩ (c_X6_next_z60 l G h0 tp wo kd mo st ro cd sr ir ih ss sq ce lw he sk na kp gb go fa ga vo H.size) (cwV 0 hts gX6_eRead_X6_next rfl rfl rfl (by decide +kernel) ⟨Nat.le_of_ble_eq_true rfl, Nat.le_of_ble_eq_true rfl⟩) ⟨gPre_blind, va_recv hK hPc (ci := 6) (q0 := 2) rfl rfl, fun U hU hW => gPre_of hU hW hK hPc hDc⟩ rfl rfl hl.1 rfl (lv_room (Nat.le_of_ble_eq_true rfl)) dX6_eRead_15 ⟨Nat.le_of_ble_eq_true rfl, Nat.le_of_ble_eq_true rfl⟩) hS (fun q _ h => hFc q h) hFc (fun u t H locs ht hvm w_12 hB hz1 hk1 hS => ?_)
  obtain ⟨hP1, hK1, hD1⟩ := hB
  rw [ht] at hP1
  have hP1 : va_P G.1 vwCl [(tp, .inl (G.2.1, 160, .inl (gPf tB 40))), (wo, .inl (G.2.1, 96, .inl (gPf tW 96))), (h0, .inr (6, [.int 0, .ref kd, .ref mo, .ref st, .int 0, .ref ro, .ref tp, .int 40, .ref cd, .ref sr, .int 0, .int 0, .int 0, .ref ir, .ref ih, .ref ss, .ref sq, .ref ce, .ref lw, .int 40, .int 39, .int 59, .int 0, .ref wo, .ref he, .int 0, .int 0, .int 5, .ref sk, .ref na, .ref kp, .int 0, .int 0, .int 0, .int 0, .ref gb, .ref go, .ref fa, .ref ga, .int 0, .int 0, .ref vo]))] H := hP1
  have hD1 : va_D (va_A [(tp, .inl (G.2.1, 160, .inl (gPf tB 40))), (wo, .inl (G.2.1, 96, .inl (gPf tW 96))), (h0, .inr (6, [.int 0, .ref kd, .ref mo, .ref st, .int 0, .ref ro, .ref tp, .int 40, .ref cd, .ref sr, .int 0, .int 0, .int 0, .ref ir, .ref ih, .ref ss, .ref sq, .ref ce, .ref lw, .int 38, .int 36, .int 1, .int 30, .ref wo, .ref he, .int 0, .int 0, .int 5, .ref sk, .ref na, .ref kp, .int 0, .int 0, .int 0, .int 0, .ref gb, .ref go, .ref fa, .ref ga, .int 0, .int 0, .ref vo]))] _) [(tp, .inl (G.2.1, 160, .inl (gPf tB 40))), (wo, .inl (G.2.1, 96, .inl (gPf tW 96))), (h0, .inr (6, [.int 0, .ref kd, .ref mo, .ref st, .int 0, .ref ro, .ref tp, .int 40, .ref cd, .ref sr, .int 0, .int 0, .int 0, .ref ir, .ref ih, .ref ss, .ref sq, .ref ce, .ref lw, .int 40, .int 39, .int 59, .int 0, .ref wo, .ref he, .int 0, .int 0, .int 5, .ref sk, .ref na, .ref kp, .int 0, .int 0, .int 0, .int 0, .ref gb, .ref go, .ref fa, .ref ga, .int 0, .int 0, .ref vo]))] := hD1
  obtain ⟨hP, hD⟩ := va_join (wr := [(he, .inl (G.2.1, 200, .inl (upd (fun _ => 0) 0 17))), (cd, .inl (G.2.1, 1200, .inl (upd (upd (upd (upd (upd (fun _ => 0) 0 0) 1 1) 2 17) 3 100001) 4 100030)))]) (w1 := [(tp, .inl (G.2.1, 160, .inl (gPf tB 40))), (wo, .inl (G.2.1, 96, .inl (gPf tW 96))), (h0, .inr (6, [.int 0, .ref kd, .ref mo, .ref st, .int 0, .ref ro, .ref tp, .int 40, .ref cd, .ref sr, .int 0, .int 0, .int 0, .ref ir, .ref ih, .ref ss, .ref sq, .ref ce, .ref lw, .int 40, .int 39, .int 59, .int 0, .ref wo, .ref he, .int 0, .int 0, .int 5, .ref sk, .ref na, .ref kp, .int 0, .int 0, .int 0, .int 0, .ref gb, .ref go, .ref fa, .ref ga, .int 0, .int 0, .ref vo]))]) hP hD [0, 1, 4] [2, 3] rfl rfl (by decide) (by decide) hk1 hFc hP1 hD1
  have hP : va_P G.1 vwCl [(he, .inl (G.2.1, 200, .inl (upd (fun _ => 0) 0 17))), (cd, .inl (G.2.1, 1200, .inl (upd (upd (upd (upd (upd (fun _ => 0) 0 0) 1 1) 2 17) 3 100001) 4 100030))), (tp, .inl (G.2.1, 160, .inl (gPf tB 40))), (wo, .inl (G.2.1, 96, .inl (gPf tW 96))), (h0, .inr (6, [.int 0, .ref kd, .ref mo, .ref st, .int 0, .ref ro, .ref tp, .int 40, .ref cd, .ref sr, .int 0, .int 0, .int 0, .ref ir, .ref ih, .ref ss, .ref sq, .ref ce, .ref lw, .int 40, .int 39, .int 59, .int 0, .ref wo, .ref he, .int 0, .int 0, .int 5, .ref sk, .ref na, .ref kp, .int 0, .int 0, .int 0, .int 0, .ref gb, .ref go, .ref fa, .ref ga, .int 0, .int 0, .ref vo]))] H := hP
  have hD : va_D A [(he, .inl (G.2.1, 200, .inl (upd (fun _ => 0) 0 17))), (cd, .inl (G.2.1, 1200, .inl (upd (upd (upd (upd (upd (fun _ => 0) 0 0) 1 1) 2 17) 3 100001) 4 100030))), (tp, .inl (G.2.1, 160, .inl (gPf tB 40))), (wo, .inl (G.2.1, 96, .inl (gPf tW 96))), (h0, .inr (6, [.int 0, .ref kd, .ref mo, .ref st, .int 0, .ref ro, .ref tp, .int 40, .ref cd, .ref sr, .int 0, .int 0, .int 0, .ref ir, .ref ih, .ref ss, .ref sq, .ref ce, .ref lw, .int 40, .int 39, .int 59, .int 0, .ref wo, .ref he, .int 0, .int 0, .int 5, .ref sk, .ref na, .ref kp, .int 0, .int 0, .int 0, .int 0, .ref gb, .ref go, .ref fa, .ref ga, .int 0, .int 0, .ref vo]))] := hD
  refine lv_iload_n hx hb dX6_eRead_18 rfl (lv_at hl 0 rfl) ?_
  refine lv_if_eq (tgt := 150) hx hb dX6_eRead_19 (by decide) (fun c_13 => ?_) (fun c_13 => ?_)
  rotate_left
  · exact absurd (by decide) c_13
  refine lv_aload_n hx hb dX6_eRead_150 rfl (lv_at hl 2 rfl) ?_
  refine va_get (D := G.1) (ci := 6) (v := .int 59) (C := RX6) (T := TX6) (N := 42) hx hb hts hiX6 hown hK hP 4 rfl rfl 21 (by decide) kf117 (fun _ h9 => h9) rfl dX6_eRead_151 ?_
  refine lv_bipush (v := 59) hx hb dX6_eRead_154 (by decide) ?_
  refine lv_icmp_ne (tgt := 177) hx hb dX6_eRead_156 (by decide) (fun c_14 => ?_) (fun c_14 => ?_)
  · exact absurd (by decide) c_14
  refine lv_aload_n hx hb dX6_eRead_159 rfl (lv_at hl 2 rfl) ?_
  refine lv_iconst (v := 1) hx hb dX6_eRead_160 (by decide) ?_
  have hPc : va_P G.1 vwCl [(he, .inl (G.2.1, 200, .inl (upd (fun _ => 0) 0 17))), (cd, .inl (G.2.1, 1200, .inl (upd (upd (upd (upd (upd (fun _ => 0) 0 0) 1 1) 2 17) 3 100001) 4 100030))), (h0, .inr (6, [.int 0, .ref kd, .ref mo, .ref st, .int 0, .ref ro, .ref tp, .int 40, .ref cd, .ref sr, .int 0, .int 0, .int 0, .ref ir, .ref ih, .ref ss, .ref sq, .ref ce, .ref lw, .int 40, .int 39, .int 59, .int 0, .ref wo, .ref he, .int 0, .int 0, .int 5, .ref sk, .ref na, .ref kp, .int 0, .int 0, .int 0, .int 0, .ref gb, .ref go, .ref fa, .ref ga, .int 0, .int 0, .ref vo]))] H := hP.sub [0, 1, 4] rfl
  have hDc : va_D A [(he, .inl (G.2.1, 200, .inl (upd (fun _ => 0) 0 17))), (cd, .inl (G.2.1, 1200, .inl (upd (upd (upd (upd (upd (fun _ => 0) 0 0) 1 1) 2 17) 3 100001) 4 100030))), (h0, .inr (6, [.int 0, .ref kd, .ref mo, .ref st, .int 0, .ref ro, .ref tp, .int 40, .ref cd, .ref sr, .int 0, .int 0, .int 0, .ref ir, .ref ih, .ref ss, .ref sq, .ref ce, .ref lw, .int 40, .int 39, .int 59, .int 0, .ref wo, .ref he, .int 0, .int 0, .int 5, .ref sk, .ref na, .ref kp, .int 0, .int 0, .int 0, .int 0, .ref gb, .ref go, .ref fa, .ref ga, .int 0, .int 0, .ref vo]))] := hD.sub [0, 1, 4] (by decide) rfl
  have hFc := va_free (wc := [(he, .inl (G.2.1, 200, .inl (upd (fun _ => 0) 0 17))), (cd, .inl (G.2.1, 1200, .inl (upd (upd (upd (upd (upd (fun _ => 0) 0 0) 1 1) 2 17) 3 100001) 4 100030))), (h0, .inr (6, [.int 0, .ref kd, .ref mo, .ref st, .int 0, .ref ro, .ref tp, .int 40, .ref cd, .ref sr, .int 0, .int 0, .int 0, .ref ir, .ref ih, .ref ss, .ref sq, .ref ce, .ref lw, .int 40, .int 39, .int 59, .int 0, .ref wo, .ref he, .int 0, .int 0, .int 5, .ref sk, .ref na, .ref kp, .int 0, .int 0, .int 0, .int 0, .ref gb, .ref go, .ref fa, .ref ga, .int 0, .int 0, .ref vo]))]) hD hS hA [0, 1, 4] rfl
  refine va_callv (va_runV (As := [.int 1]) (rest := []) ⟨hx, hb, hml, hown, hts⟩ (c_X6_unwinds_z61 l G h0 he cd kd mo st ro tp sr ir ih ss sq ce lw wo sk na kp gb go fa ga vo H.size) (cwV 1 hts gX6_eRead_X6_unwinds rfl rfl rfl (by decide +kernel) ⟨Nat.le_of_ble_eq_true rfl, Nat.le_of_ble_eq_true rfl⟩) ⟨gPre_blind, va_recv hK hPc (ci := 6) (q0 := 2) rfl rfl, fun U hU hW => gPre_of hU hW hK hPc hDc⟩ rfl rfl hl.1 rfl (lv_room (Nat.le_of_ble_eq_true rfl)) dX6_eRead_161 ⟨Nat.le_of_ble_eq_true rfl, Nat.le_of_ble_eq_true rfl⟩) hS (fun q _ h => hFc q h) hFc (fun u t H locs ht hvm w_16 hB hz1 hk1 hS => ?_)
  obtain ⟨hP1, hK1, hD1⟩ := hB
  rw [ht] at hP1
  have hP1 : va_P G.1 vwCl [(he, .inl (G.2.1, 200, .inl (upd (fun _ => 0) 0 17))), (cd, .inl (G.2.1, 1200, .inl (upd (upd (upd (upd (upd (fun _ => 0) 0 0) 1 1) 2 17) 3 100001) 4 100030))), (h0, .inr (6, [.int 0, .ref kd, .ref mo, .ref st, .int 0, .ref ro, .ref tp, .int 40, .ref cd, .ref sr, .int 0, .int 0, .int 0, .ref ir, .ref ih, .ref ss, .ref sq, .ref ce, .ref lw, .int 40, .int 39, .int 59, .int 0, .ref wo, .ref he, .int 0, .int 0, .int 5, .ref sk, .ref na, .ref kp, .int 0, .int 0, .int 0, .int 0, .ref gb, .ref go, .ref fa, .ref ga, .int 0, .int 0, .ref vo]))] H := hP1
  have hD1 : va_D (va_A [(he, .inl (G.2.1, 200, .inl (upd (fun _ => 0) 0 17))), (cd, .inl (G.2.1, 1200, .inl (upd (upd (upd (upd (upd (fun _ => 0) 0 0) 1 1) 2 17) 3 100001) 4 100030))), (h0, .inr (6, [.int 0, .ref kd, .ref mo, .ref st, .int 0, .ref ro, .ref tp, .int 40, .ref cd, .ref sr, .int 0, .int 0, .int 0, .ref ir, .ref ih, .ref ss, .ref sq, .ref ce, .ref lw, .int 40, .int 39, .int 59, .int 0, .ref wo, .ref he, .int 0, .int 0, .int 5, .ref sk, .ref na, .ref kp, .int 0, .int 0, .int 0, .int 0, .ref gb, .ref go, .ref fa, .ref ga, .int 0, .int 0, .ref vo]))] _) [(he, .inl (G.2.1, 200, .inl (upd (fun _ => 0) 0 17))), (cd, .inl (G.2.1, 1200, .inl (upd (upd (upd (upd (upd (fun _ => 0) 0 0) 1 1) 2 17) 3 100001) 4 100030))), (h0, .inr (6, [.int 0, .ref kd, .ref mo, .ref st, .int 0, .ref ro, .ref tp, .int 40, .ref cd, .ref sr, .int 0, .int 0, .int 0, .ref ir, .ref ih, .ref ss, .ref sq, .ref ce, .ref lw, .int 40, .int 39, .int 59, .int 0, .ref wo, .ref he, .int 0, .int 0, .int 5, .ref sk, .ref na, .ref kp, .int 0, .int 0, .int 0, .int 0, .ref gb, .ref go, .ref fa, .ref ga, .int 0, .int 0, .ref vo]))] := hD1
  obtain ⟨hP, hD⟩ := va_join (wr := [(tp, .inl (G.2.1, 160, .inl (gPf tB 40))), (wo, .inl (G.2.1, 96, .inl (gPf tW 96)))]) (w1 := [(he, .inl (G.2.1, 200, .inl (upd (fun _ => 0) 0 17))), (cd, .inl (G.2.1, 1200, .inl (upd (upd (upd (upd (upd (fun _ => 0) 0 0) 1 1) 2 17) 3 100001) 4 100030))), (h0, .inr (6, [.int 0, .ref kd, .ref mo, .ref st, .int 0, .ref ro, .ref tp, .int 40, .ref cd, .ref sr, .int 0, .int 0, .int 0, .ref ir, .ref ih, .ref ss, .ref sq, .ref ce, .ref lw, .int 40, .int 39, .int 59, .int 0, .ref wo, .ref he, .int 0, .int 0, .int 5, .ref sk, .ref na, .ref kp, .int 0, .int 0, .int 0, .int 0, .ref gb, .ref go, .ref fa, .ref ga, .int 0, .int 0, .ref vo]))]) hP hD [0, 1, 4] [2, 3] rfl rfl (by decide) (by decide) hk1 hFc hP1 hD1
  have hP : va_P G.1 vwCl [(tp, .inl (G.2.1, 160, .inl (gPf tB 40))), (wo, .inl (G.2.1, 96, .inl (gPf tW 96))), (he, .inl (G.2.1, 200, .inl (upd (fun _ => 0) 0 17))), (cd, .inl (G.2.1, 1200, .inl (upd (upd (upd (upd (upd (fun _ => 0) 0 0) 1 1) 2 17) 3 100001) 4 100030))), (h0, .inr (6, [.int 0, .ref kd, .ref mo, .ref st, .int 0, .ref ro, .ref tp, .int 40, .ref cd, .ref sr, .int 0, .int 0, .int 0, .ref ir, .ref ih, .ref ss, .ref sq, .ref ce, .ref lw, .int 40, .int 39, .int 59, .int 0, .ref wo, .ref he, .int 0, .int 0, .int 5, .ref sk, .ref na, .ref kp, .int 0, .int 0, .int 0, .int 0, .ref gb, .ref go, .ref fa, .ref ga, .int 0, .int 0, .ref vo]))] H := hP
  have hD : va_D A [(tp, .inl (G.2.1, 160, .inl (gPf tB 40))), (wo, .inl (G.2.1, 96, .inl (gPf tW 96))), (he, .inl (G.2.1, 200, .inl (upd (fun _ => 0) 0 17))), (cd, .inl (G.2.1, 1200, .inl (upd (upd (upd (upd (upd (fun _ => 0) 0 0) 1 1) 2 17) 3 100001) 4 100030))), (h0, .inr (6, [.int 0, .ref kd, .ref mo, .ref st, .int 0, .ref ro, .ref tp, .int 40, .ref cd, .ref sr, .int 0, .int 0, .int 0, .ref ir, .ref ih, .ref ss, .ref sq, .ref ce, .ref lw, .int 40, .int 39, .int 59, .int 0, .ref wo, .ref he, .int 0, .int 0, .int 5, .ref sk, .ref na, .ref kp, .int 0, .int 0, .int 0, .int 0, .ref gb, .ref go, .ref fa, .ref ga, .int 0, .int 0, .ref vo]))] := hD
  refine lv_aload_n hx hb dX6_eRead_164 rfl (lv_at hl 2 rfl) ?_
  refine va_get (D := G.1) (ci := 6) (v := .int 0) (C := RX6) (T := TX6) (N := 42) hx hb hts hiX6 hown hK hP 4 rfl rfl 25 (by decide) kf130 (fun _ h9 => h9) rfl dX6_eRead_165 ?_
  refine lv_if_ne (tgt := 175) hx hb dX6_eRead_168 (by decide) (fun c_17 => ?_) (fun c_17 => ?_)
  · exact absurd (by decide) c_17
  refine lv_iconst (v := 1) hx hb dX6_eRead_171 (by decide) ?_
  refine lv_goto (tgt := 176) hx hb dX6_eRead_172 (by decide) ?_
  have hP9 := hP.sub (ws' := [(cd, .inl (G.2.1, 1200, .inl (upd (upd (upd (upd (upd (fun _ => 0) 0 0) 1 1) 2 17) 3 100001) 4 100030))), (he, .inl (G.2.1, 200, .inl (upd (fun _ => 0) 0 17))), (h0, .inr (6, [.int 0, .ref kd, .ref mo, .ref st, .int 0, .ref ro, .ref tp, .int 40, .ref cd, .ref sr, .int 0, .int 0, .int 0, .ref ir, .ref ih, .ref ss, .ref sq, .ref ce, .ref lw, .int 40, .int 39, .int 59, .int 0, .ref wo, .ref he, .int 0, .int 0, .int 5, .ref sk, .ref na, .ref kp, .int 0, .int 0, .int 0, .int 0, .ref gb, .ref go, .ref fa, .ref ga, .int 0, .int 0, .ref vo])), (tp, .inl (G.2.1, 160, .inl (gPf tB 40))), (wo, .inl (G.2.1, 96, .inl (gPf tW 96)))]) [3, 2, 4, 0, 1] rfl
  have hD9 := hD.sub (ws' := [(cd, .inl (G.2.1, 1200, .inl (upd (upd (upd (upd (upd (fun _ => 0) 0 0) 1 1) 2 17) 3 100001) 4 100030))), (he, .inl (G.2.1, 200, .inl (upd (fun _ => 0) 0 17))), (h0, .inr (6, [.int 0, .ref kd, .ref mo, .ref st, .int 0, .ref ro, .ref tp, .int 40, .ref cd, .ref sr, .int 0, .int 0, .int 0, .ref ir, .ref ih, .ref ss, .ref sq, .ref ce, .ref lw, .int 40, .int 39, .int 59, .int 0, .ref wo, .ref he, .int 0, .int 0, .int 5, .ref sk, .ref na, .ref kp, .int 0, .int 0, .int 0, .int 0, .ref gb, .ref go, .ref fa, .ref ga, .int 0, .int 0, .ref vo])), (tp, .inl (G.2.1, 160, .inl (gPf tB 40))), (wo, .inl (G.2.1, 96, .inl (gPf tW 96)))]) [3, 2, 4, 0, 1] (by decide) rfl
  have hpost : (fun (r : Int32) (u : Unit) => match u with | _ => r = 1) 1 () := by first | rfl | trivial
  exact W.zret (v := 1) hx hb hr (rfl) (fun t ht hW => ⟨⟨1, (), rfl, hpost, by rw [ht]; exact hP9, va_K.moved hW.alike hK, hD9⟩, hS.F ht⟩) hS.2.2 dX6_eRead_176
abbrev q_X6_next_z62 (G : gG) (h0 kd mo st ro tp cd sr ir ih ss sq ce lw wo he sk na kp gb go fa ga vo : Nat) (A : Nat → Prop) : Array Value → State → Outcome → State → Prop := va_Qv (fun (u : Unit) => match u with | _ => True) (fun (u : Unit) t => match u with | _ => va_P G.1 vwCl [(h0, .inr (6, [.int 0, .ref kd, .ref mo, .ref st, .int 0, .ref ro, .ref tp, .int 40, .ref cd, .ref sr, .int 0, .int 0, .int 0, .ref ir, .ref ih, .ref ss, .ref sq, .ref ce, .ref lw, .int 40, .int 40, .int 0, .int 0, .ref wo, .ref he, .int 0, .int 0, .int 5, .ref sk, .ref na, .ref kp, .int 0, .int 0, .int 0, .int 0, .ref gb, .ref go, .ref fa, .ref ga, .int 0, .int 0, .ref vo])), (tp, .inl (G.2.1, 160, .inl (gPf tB 40))), (wo, .inl (G.2.1, 96, .inl (gPf tW 96)))] t.heap ∧ gK G t ∧ va_D A [(h0, .inr (6, [.int 0, .ref kd, .ref mo, .ref st, .int 0, .ref ro, .ref tp, .int 40, .ref cd, .ref sr, .int 0, .int 0, .int 0, .ref ir, .ref ih, .ref ss, .ref sq, .ref ce, .ref lw, .int 40, .int 40, .int 0, .int 0, .ref wo, .ref he, .int 0, .int 0, .int 5, .ref sk, .ref na, .ref kp, .int 0, .int 0, .int 0, .int 0, .ref gb, .ref go, .ref fa, .ref ga, .int 0, .int 0, .ref vo])), (tp, .inl (G.2.1, 160, .inl (gPf tB 40))), (wo, .inl (G.2.1, 96, .inl (gPf tW 96)))]) A
set_option maxHeartbeats 4000000 in
set_option maxRecDepth 100000 in
theorem c_X6_next_z62 (l : Launch) (G : gG) (h0 kd mo st ro tp cd sr ir ih ss sq ce lw wo he sk na kp gb go fa ga vo : Nat) (sz : Nat) : Met l yX6_next wsX6_next ({ frames := 0, cells := 0, slots := 0, locals := 0 }) (gPre G [.ref h0] [(h0, .inr (6, [.int 0, .ref kd, .ref mo, .ref st, .int 0, .ref ro, .ref tp, .int 40, .ref cd, .ref sr, .int 0, .int 0, .int 0, .ref ir, .ref ih, .ref ss, .ref sq, .ref ce, .ref lw, .int 40, .int 39, .int 59, .int 0, .ref wo, .ref he, .int 0, .int 0, .int 5, .ref sk, .ref na, .ref kp, .int 0, .int 0, .int 0, .int 0, .ref gb, .ref go, .ref fa, .ref ga, .int 0, .int 0, .ref vo])), (tp, .inl (G.2.1, 160, .inl (gPf tB 40))), (wo, .inl (G.2.1, 96, .inl (gPf tW 96)))] sz) (q_X6_next_z62 G h0 kd mo st ro tp cd sr ir ih ss sq ce lw wo he sk na kp gb go fa ga vo (va_A [(h0, .inr (6, [.int 0, .ref kd, .ref mo, .ref st, .int 0, .ref ro, .ref tp, .int 40, .ref cd, .ref sr, .int 0, .int 0, .int 0, .ref ir, .ref ih, .ref ss, .ref sq, .ref ce, .ref lw, .int 40, .int 39, .int 59, .int 0, .ref wo, .ref he, .int 0, .int 0, .int 5, .ref sk, .ref na, .ref kp, .int 0, .int 0, .int 0, .int 0, .ref gb, .ref go, .ref fa, .ref ga, .int 0, .int 0, .ref vo])), (tp, .inl (G.2.1, 160, .inl (gPf tB 40))), (wo, .inl (G.2.1, 96, .inl (gPf tW 96)))] sz)) 0 0 (va_A [(h0, .inr (6, [.int 0, .ref kd, .ref mo, .ref st, .int 0, .ref ro, .ref tp, .int 40, .ref cd, .ref sr, .int 0, .int 0, .int 0, .ref ir, .ref ih, .ref ss, .ref sq, .ref ce, .ref lw, .int 40, .int 39, .int 59, .int 0, .ref wo, .ref he, .int 0, .int 0, .int 5, .ref sk, .ref na, .ref kp, .int 0, .int 0, .int 0, .int 0, .ref gb, .ref go, .ref fa, .ref ga, .int 0, .int 0, .ref vo])), (tp, .inl (G.2.1, 160, .inl (gPf tB 40))), (wo, .inl (G.2.1, 96, .inl (gPf tW 96)))] sz) := by
  refine Met.ofW (cc := cX6_next) (maxL := 3) (ret := none) (by decide) rfl ?_
  intro p e s m args below meth c s₁ B hml hv
  obtain ⟨rfl, hsz, hP, hK, hD0⟩ := hv
  have hx := B.exec
  have hb := B.bytes
  have hr := B.returns
  have hts := atoms_spec (ws := wsX6_next) B.pre
  have hown : s.vm.findClass RX6 = some m.cls := findClass_of_methodNamed B.named
  have hlocks := B.notSynchronized
  subst hsz
  have hD := hD0.self (sz := s.heap.size)
  generalize hAe : va_A [(h0, .inr (6, [.int 0, .ref kd, .ref mo, .ref st, .int 0, .ref ro, .ref tp, .int 40, .ref cd, .ref sr, .int 0, .int 0, .int 0, .ref ir, .ref ih, .ref ss, .ref sq, .ref ce, .ref lw, .int 40, .int 39, .int 59, .int 0, .ref wo, .ref he, .int 0, .int 0, .int 5, .ref sk, .ref na, .ref kp, .int 0, .int 0, .int 0, .int 0, .ref gb, .ref go, .ref fa, .ref ga, .int 0, .int 0, .ref vo])), (tp, .inl (G.2.1, 160, .inl (gPf tB 40))), (wo, .inl (G.2.1, 96, .inl (gPf tW 96)))] s.heap.size = A at hD ⊢
  have hA : ∀ q : Nat, s.heap.size ≤ q → A q := fun q h => by rw [← hAe]; exact Or.inr h
  have hS : va_S A s.heap s.heap [] := va_S.rf
  have hP : va_P G.1 vwCl [(h0, .inr (6, [.int 0, .ref kd, .ref mo, .ref st, .int 0, .ref ro, .ref tp, .int 40, .ref cd, .ref sr, .int 0, .int 0, .int 0, .ref ir, .ref ih, .ref ss, .ref sq, .ref ce, .ref lw, .int 40, .int 39, .int 59, .int 0, .ref wo, .ref he, .int 0, .int 0, .int 5, .ref sk, .ref na, .ref kp, .int 0, .int 0, .int 0, .int 0, .ref gb, .ref go, .ref fa, .ref ga, .int 0, .int 0, .ref vo])), (tp, .inl (G.2.1, 160, .inl (gPf tB 40))), (wo, .inl (G.2.1, 96, .inl (gPf tW 96)))] s.heap := hP
  have hD : va_D A [(h0, .inr (6, [.int 0, .ref kd, .ref mo, .ref st, .int 0, .ref ro, .ref tp, .int 40, .ref cd, .ref sr, .int 0, .int 0, .int 0, .ref ir, .ref ih, .ref ss, .ref sq, .ref ce, .ref lw, .int 40, .int 39, .int 59, .int 0, .ref wo, .ref he, .int 0, .int 0, .int 5, .ref sk, .ref na, .ref kp, .int 0, .int 0, .int 0, .int 0, .ref gb, .ref go, .ref fa, .ref ga, .int 0, .int 0, .ref vo])), (tp, .inl (G.2.1, 160, .inl (gPf tB 40))), (wo, .inl (G.2.1, 96, .inl (gPf tW 96)))] := hD
  have hl := lv_entry ([.ref h0]) (n := 3) (Nat.le_of_ble_eq_true rfl)
  rw [lg_entry_eq]
  generalize (lg_sl ([.ref h0]) ++ List.replicate (3 - (lg_sl ([.ref h0])).length) Slot.unset).toArray = ls at hl ⊢
  have hl : lv_has ls 3 [(0, .ref h0)] := hl
  have kf111 := hts (.fieldLink RX6 111 "PebbleInShoeModel" "at" "I") (by decide +kernel)
  have hiX6 := (by decide +kernel : ∀ w ∈ wsX60, w ∈ wsX6_next)
  have kf80 := hts (.fieldLink RX6 80 "PebbleInShoeModel" "taped" "I") (by decide +kernel)
  have kf114 := hts (.fieldLink RX6 114 "PebbleInShoeModel" "begun" "I") (by decide +kernel)
  have kf117 := hts (.fieldLink RX6 117 "PebbleInShoeModel" "token" "I") (by decide +kernel)
  have kf120 := hts (.fieldLink RX6 120 "PebbleInShoeModel" "value" "I") (by decide +kernel)
  refine lv_aload_n hx hb dX6_next_0 rfl (lv_at hl 0 rfl) ?_
  refine va_get (D := G.1) (ci := 6) (v := .int 40) (C := RX6) (T := TX6) (N := 42) hx hb hts hiX6 hown hK hP 0 rfl rfl 19 (by decide) kf111 (fun _ h9 => h9) rfl dX6_next_1 ?_
  refine lv_aload_n hx hb dX6_next_4 rfl (lv_at hl 0 rfl) ?_
  refine va_get (D := G.1) (ci := 6) (v := .int 40) (C := RX6) (T := TX6) (N := 42) hx hb hts hiX6 hown hK hP 0 rfl rfl 7 (by decide) kf80 (fun _ h9 => h9) rfl dX6_next_5 ?_
  refine lv_icmp_ge (tgt := 52) hx hb dX6_next_8 (by decide) (fun c_1 => ?_) (fun c_1 => ?_)
  rotate_left
  · exact absurd (by decide) c_1
  refine lv_aload_n hx hb dX6_next_52 rfl (lv_at hl 0 rfl) ?_
  refine lv_aload_n hx hb dX6_next_53 rfl (lv_at hl 0 rfl) ?_
  refine va_get (D := G.1) (ci := 6) (v := .int 40) (C := RX6) (T := TX6) (N := 42) hx hb hts hiX6 hown hK hP 0 rfl rfl 19 (by decide) kf111 (fun _ h9 => h9) rfl dX6_next_54 ?_
  refine va_put (D := G.1) (ci := 6) (v := .int 40) (ty := .int) (C := RX6) (T := TX6) (N := 42) hx hb hts hiX6 tyX6 tyX6_ok nmX6 hown hK hP hD hS 0 rfl rfl 20 (by decide) kf114 (fun _ h9 => h9) rfl (by decide +kernel) rfl rfl (Nat.le_of_ble_eq_true rfl) dX6_next_57 (fun H locs hP hD hS => ?_)
  have hP : va_P G.1 vwCl [(h0, .inr (6, [.int 0, .ref kd, .ref mo, .ref st, .int 0, .ref ro, .ref tp, .int 40, .ref cd, .ref sr, .int 0, .int 0, .int 0, .ref ir, .ref ih, .ref ss, .ref sq, .ref ce, .ref lw, .int 40, .int 40, .int 59, .int 0, .ref wo, .ref he, .int 0, .int 0, .int 5, .ref sk, .ref na, .ref kp, .int 0, .int 0, .int 0, .int 0, .ref gb, .ref go, .ref fa, .ref ga, .int 0, .int 0, .ref vo])), (tp, .inl (G.2.1, 160, .inl (gPf tB 40))), (wo, .inl (G.2.1, 96, .inl (gPf tW 96)))] H := hP
  have hD : va_D A [(h0, .inr (6, [.int 0, .ref kd, .ref mo, .ref st, .int 0, .ref ro, .ref tp, .int 40, .ref cd, .ref sr, .int 0, .int 0, .int 0, .ref ir, .ref ih, .ref ss, .ref sq, .ref ce, .ref lw, .int 40, .int 40, .int 59, .int 0, .ref wo, .ref he, .int 0, .int 0, .int 5, .ref sk, .ref na, .ref kp, .int 0, .int 0, .int 0, .int 0, .ref gb, .ref go, .ref fa, .ref ga, .int 0, .int 0, .ref vo])), (tp, .inl (G.2.1, 160, .inl (gPf tB 40))), (wo, .inl (G.2.1, 96, .inl (gPf tW 96)))] := hD
  refine lv_aload_n hx hb dX6_next_60 rfl (lv_at hl 0 rfl) ?_
  refine lv_iconst (v := 0) hx hb dX6_next_61 (by decide) ?_
  refine va_put (D := G.1) (ci := 6) (v := .int 0) (ty := .int) (C := RX6) (T := TX6) (N := 42) hx hb hts hiX6 tyX6 tyX6_ok nmX6 hown hK hP hD hS 0 rfl rfl 21 (by decide) kf117 (fun _ h9 => h9) rfl (by decide +kernel) rfl rfl (Nat.le_of_ble_eq_true rfl) dX6_next_62 (fun H locs hP hD hS => ?_)
  have hP : va_P G.1 vwCl [(h0, .inr (6, [.int 0, .ref kd, .ref mo, .ref st, .int 0, .ref ro, .ref tp, .int 40, .ref cd, .ref sr, .int 0, .int 0, .int 0, .ref ir, .ref ih, .ref ss, .ref sq, .ref ce, .ref lw, .int 40, .int 40, .int 0, .int 0, .ref wo, .ref he, .int 0, .int 0, .int 5, .ref sk, .ref na, .ref kp, .int 0, .int 0, .int 0, .int 0, .ref gb, .ref go, .ref fa, .ref ga, .int 0, .int 0, .ref vo])), (tp, .inl (G.2.1, 160, .inl (gPf tB 40))), (wo, .inl (G.2.1, 96, .inl (gPf tW 96)))] H := hP
  have hD : va_D A [(h0, .inr (6, [.int 0, .ref kd, .ref mo, .ref st, .int 0, .ref ro, .ref tp, .int 40, .ref cd, .ref sr, .int 0, .int 0, .int 0, .ref ir, .ref ih, .ref ss, .ref sq, .ref ce, .ref lw, .int 40, .int 40, .int 0, .int 0, .ref wo, .ref he, .int 0, .int 0, .int 5, .ref sk, .ref na, .ref kp, .int 0, .int 0, .int 0, .int 0, .ref gb, .ref go, .ref fa, .ref ga, .int 0, .int 0, .ref vo])), (tp, .inl (G.2.1, 160, .inl (gPf tB 40))), (wo, .inl (G.2.1, 96, .inl (gPf tW 96)))] := hD
  refine lv_aload_n hx hb dX6_next_65 rfl (lv_at hl 0 rfl) ?_
  refine lv_iconst (v := 0) hx hb dX6_next_66 (by decide) ?_
  refine va_put (D := G.1) (ci := 6) (v := .int 0) (ty := .int) (C := RX6) (T := TX6) (N := 42) hx hb hts hiX6 tyX6 tyX6_ok nmX6 hown hK hP hD hS 0 rfl rfl 22 (by decide) kf120 (fun _ h9 => h9) rfl (by decide +kernel) rfl rfl (Nat.le_of_ble_eq_true rfl) dX6_next_67 (fun H locs hP hD hS => ?_)
  have hP : va_P G.1 vwCl [(h0, .inr (6, [.int 0, .ref kd, .ref mo, .ref st, .int 0, .ref ro, .ref tp, .int 40, .ref cd, .ref sr, .int 0, .int 0, .int 0, .ref ir, .ref ih, .ref ss, .ref sq, .ref ce, .ref lw, .int 40, .int 40, .int 0, .int 0, .ref wo, .ref he, .int 0, .int 0, .int 5, .ref sk, .ref na, .ref kp, .int 0, .int 0, .int 0, .int 0, .ref gb, .ref go, .ref fa, .ref ga, .int 0, .int 0, .ref vo])), (tp, .inl (G.2.1, 160, .inl (gPf tB 40))), (wo, .inl (G.2.1, 96, .inl (gPf tW 96)))] H := hP
  have hD : va_D A [(h0, .inr (6, [.int 0, .ref kd, .ref mo, .ref st, .int 0, .ref ro, .ref tp, .int 40, .ref cd, .ref sr, .int 0, .int 0, .int 0, .ref ir, .ref ih, .ref ss, .ref sq, .ref ce, .ref lw, .int 40, .int 40, .int 0, .int 0, .ref wo, .ref he, .int 0, .int 0, .int 5, .ref sk, .ref na, .ref kp, .int 0, .int 0, .int 0, .int 0, .ref gb, .ref go, .ref fa, .ref ga, .int 0, .int 0, .ref vo])), (tp, .inl (G.2.1, 160, .inl (gPf tB 40))), (wo, .inl (G.2.1, 96, .inl (gPf tW 96)))] := hD
  refine lv_aload_n hx hb dX6_next_70 rfl (lv_at hl 0 rfl) ?_
  refine va_get (D := G.1) (ci := 6) (v := .int 40) (C := RX6) (T := TX6) (N := 42) hx hb hts hiX6 hown hK hP 0 rfl rfl 19 (by decide) kf111 (fun _ h9 => h9) rfl dX6_next_71 ?_
  refine lv_aload_n hx hb dX6_next_74 rfl (lv_at hl 0 rfl) ?_
  refine va_get (D := G.1) (ci := 6) (v := .int 40) (C := RX6) (T := TX6) (N := 42) hx hb hts hiX6 hown hK hP 0 rfl rfl 7 (by decide) kf80 (fun _ h9 => h9) rfl dX6_next_75 ?_
  refine lv_icmp_ne (tgt := 82) hx hb dX6_next_78 (by decide) (fun c_2 => ?_) (fun c_2 => ?_)
  · exact absurd (by decide) c_2
  have hP9 := hP.sub (ws' := [(h0, .inr (6, [.int 0, .ref kd, .ref mo, .ref st, .int 0, .ref ro, .ref tp, .int 40, .ref cd, .ref sr, .int 0, .int 0, .int 0, .ref ir, .ref ih, .ref ss, .ref sq, .ref ce, .ref lw, .int 40, .int 40, .int 0, .int 0, .ref wo, .ref he, .int 0, .int 0, .int 5, .ref sk, .ref na, .ref kp, .int 0, .int 0, .int 0, .int 0, .ref gb, .ref go, .ref fa, .ref ga, .int 0, .int 0, .ref vo])), (tp, .inl (G.2.1, 160, .inl (gPf tB 40))), (wo, .inl (G.2.1, 96, .inl (gPf tW 96)))]) [0, 1, 2] rfl
  have hD9 := hD.sub (ws' := [(h0, .inr (6, [.int 0, .ref kd, .ref mo, .ref st, .int 0, .ref ro, .ref tp, .int 40, .ref cd, .ref sr, .int 0, .int 0, .int 0, .ref ir, .ref ih, .ref ss, .ref sq, .ref ce, .ref lw, .int 40, .int 40, .int 0, .int 0, .ref wo, .ref he, .int 0, .int 0, .int 5, .ref sk, .ref na, .ref kp, .int 0, .int 0, .int 0, .int 0, .ref gb, .ref go, .ref fa, .ref ga, .int 0, .int 0, .ref vo])), (tp, .inl (G.2.1, 160, .inl (gPf tB 40))), (wo, .inl (G.2.1, 96, .inl (gPf tW 96)))]) [0, 1, 2] (by decide) rfl
  have hpost : (fun (u : Unit) => match u with | _ => True) () := by first | rfl | trivial
  exact W.vret hx hb hr (fun t ht hW => ⟨⟨(), rfl, hpost, by rw [ht]; exact hP9, va_K.moved hW.alike hK, hD9⟩, hS.F ht⟩) hS.2.2 dX6_next_81
abbrev q_X6_text_law (G : gG) (h0 kd mo st ro tp cd sr ir ih ss sq ce lw wo he sk na kp gb go fa ga vo : Nat) (A : Nat → Prop) : Array Value → State → Outcome → State → Prop := va_Qi (fun (r : Int32) (u : Unit) => match u with | _ => r = 0) (fun (u : Unit) t => match u with | _ => va_P G.1 vwCl [(h0, .inr (6, [.int 0, .ref kd, .ref mo, .ref st, .int 0, .ref ro, .ref tp, .int 0, .ref cd, .ref sr, .int 1, .int 0, .int 0, .ref ir, .ref ih, .ref ss, .ref sq, .ref ce, .ref lw, .int 40, .int 40, .int 0, .int 0, .ref wo, .ref he, .int 0, .int 0, .int 5, .ref sk, .ref na, .ref kp, .int 0, .int 0, .int 0, .int 0, .ref gb, .ref go, .ref fa, .ref ga, .int 0, .int 0, .ref vo])), (tp, .inl (G.2.1, 160, .inl (gPf tB 40))), (wo, .inl (G.2.1, 96, .inl (gPf tW 96))), (cd, .inl (G.2.1, 1200, .inl (upd (upd (upd (upd (upd (fun _ => 0) 0 0) 1 1) 2 17) 3 100001) 4 100030))), (sr, .inl (G.2.1, 24, .inl (upd (upd (upd (upd (fun _ => 0) 0 0) 1 3) 2 4) 3 5))), (he, .inl (G.2.1, 200, .inl (upd (fun _ => 0) 0 17)))] t.heap ∧ gK G t ∧ va_D A [(h0, .inr (6, [.int 0, .ref kd, .ref mo, .ref st, .int 0, .ref ro, .ref tp, .int 0, .ref cd, .ref sr, .int 1, .int 0, .int 0, .ref ir, .ref ih, .ref ss, .ref sq, .ref ce, .ref lw, .int 40, .int 40, .int 0, .int 0, .ref wo, .ref he, .int 0, .int 0, .int 5, .ref sk, .ref na, .ref kp, .int 0, .int 0, .int 0, .int 0, .ref gb, .ref go, .ref fa, .ref ga, .int 0, .int 0, .ref vo])), (tp, .inl (G.2.1, 160, .inl (gPf tB 40))), (wo, .inl (G.2.1, 96, .inl (gPf tW 96))), (cd, .inl (G.2.1, 1200, .inl (upd (upd (upd (upd (upd (fun _ => 0) 0 0) 1 1) 2 17) 3 100001) 4 100030))), (sr, .inl (G.2.1, 24, .inl (upd (upd (upd (upd (fun _ => 0) 0 0) 1 3) 2 4) 3 5))), (he, .inl (G.2.1, 200, .inl (upd (fun _ => 0) 0 17)))]) A
set_option maxHeartbeats 4000000 in
set_option maxRecDepth 100000 in
theorem c_X6_text_law (l : Launch) (G : gG) (h0 kd mo st ro tp cd sr ir ih ss sq ce lw wo he sk na kp gb go fa ga vo : Nat) (sz : Nat) : Met l yX6_text wsX6_text ({ frames := 3, cells := 0, slots := 0, locals := 70 }) (gPre G [.ref h0] [(h0, .inr (6, [.int 0, .ref kd, .ref mo, .ref st, .int 0, .ref ro, .ref tp, .int 40, .ref cd, .ref sr, .int 0, .int 0, .int 0, .ref ir, .ref ih, .ref ss, .ref sq, .ref ce, .ref lw, .int 0, .int 0, .int 0, .int 0, .ref wo, .ref he, .int 0, .int 0, .int 0, .ref sk, .ref na, .ref kp, .int 0, .int 0, .int 0, .int 0, .ref gb, .ref go, .ref fa, .ref ga, .int 0, .int 0, .ref vo])), (tp, .inl (G.2.1, 160, .inl (gPf tB 40))), (wo, .inl (G.2.1, 96, .inl (gPf tW 96))), (cd, .inl (G.2.1, 1200, .inl (fun _ => 0))), (sr, .inl (G.2.1, 24, .inl (fun _ => 0))), (he, .inl (G.2.1, 200, .inl (fun _ => 0)))] sz) (q_X6_text_law G h0 kd mo st ro tp cd sr ir ih ss sq ce lw wo he sk na kp gb go fa ga vo (va_A [(h0, .inr (6, [.int 0, .ref kd, .ref mo, .ref st, .int 0, .ref ro, .ref tp, .int 40, .ref cd, .ref sr, .int 0, .int 0, .int 0, .ref ir, .ref ih, .ref ss, .ref sq, .ref ce, .ref lw, .int 0, .int 0, .int 0, .int 0, .ref wo, .ref he, .int 0, .int 0, .int 0, .ref sk, .ref na, .ref kp, .int 0, .int 0, .int 0, .int 0, .ref gb, .ref go, .ref fa, .ref ga, .int 0, .int 0, .ref vo])), (tp, .inl (G.2.1, 160, .inl (gPf tB 40))), (wo, .inl (G.2.1, 96, .inl (gPf tW 96))), (cd, .inl (G.2.1, 1200, .inl (fun _ => 0))), (sr, .inl (G.2.1, 24, .inl (fun _ => 0))), (he, .inl (G.2.1, 200, .inl (fun _ => 0)))] sz)) 0 0 (va_A [(h0, .inr (6, [.int 0, .ref kd, .ref mo, .ref st, .int 0, .ref ro, .ref tp, .int 40, .ref cd, .ref sr, .int 0, .int 0, .int 0, .ref ir, .ref ih, .ref ss, .ref sq, .ref ce, .ref lw, .int 0, .int 0, .int 0, .int 0, .ref wo, .ref he, .int 0, .int 0, .int 0, .ref sk, .ref na, .ref kp, .int 0, .int 0, .int 0, .int 0, .ref gb, .ref go, .ref fa, .ref ga, .int 0, .int 0, .ref vo])), (tp, .inl (G.2.1, 160, .inl (gPf tB 40))), (wo, .inl (G.2.1, 96, .inl (gPf tW 96))), (cd, .inl (G.2.1, 1200, .inl (fun _ => 0))), (sr, .inl (G.2.1, 24, .inl (fun _ => 0))), (he, .inl (G.2.1, 200, .inl (fun _ => 0)))] sz) := by
  refine Met.ofW (cc := cX6_text) (maxL := 3) (ret := (some .int)) (by decide) rfl ?_
  intro p e s m args below meth c s₁ B hml hv
  obtain ⟨rfl, hsz, hP, hK, hD0⟩ := hv
  have hx := B.exec
  have hb := B.bytes
  have hr := B.returns
  have hts := atoms_spec (ws := wsX6_text) B.pre
  have hown : s.vm.findClass RX6 = some m.cls := findClass_of_methodNamed B.named
  have hlocks := B.notSynchronized
  subst hsz
  have hD := hD0.self (sz := s.heap.size)
  generalize hAe : va_A [(h0, .inr (6, [.int 0, .ref kd, .ref mo, .ref st, .int 0, .ref ro, .ref tp, .int 40, .ref cd, .ref sr, .int 0, .int 0, .int 0, .ref ir, .ref ih, .ref ss, .ref sq, .ref ce, .ref lw, .int 0, .int 0, .int 0, .int 0, .ref wo, .ref he, .int 0, .int 0, .int 0, .ref sk, .ref na, .ref kp, .int 0, .int 0, .int 0, .int 0, .ref gb, .ref go, .ref fa, .ref ga, .int 0, .int 0, .ref vo])), (tp, .inl (G.2.1, 160, .inl (gPf tB 40))), (wo, .inl (G.2.1, 96, .inl (gPf tW 96))), (cd, .inl (G.2.1, 1200, .inl (fun _ => 0))), (sr, .inl (G.2.1, 24, .inl (fun _ => 0))), (he, .inl (G.2.1, 200, .inl (fun _ => 0)))] s.heap.size = A at hD ⊢
  have hA : ∀ q : Nat, s.heap.size ≤ q → A q := fun q h => by rw [← hAe]; exact Or.inr h
  have hS : va_S A s.heap s.heap [] := va_S.rf
  have hP : va_P G.1 vwCl [(h0, .inr (6, [.int 0, .ref kd, .ref mo, .ref st, .int 0, .ref ro, .ref tp, .int 40, .ref cd, .ref sr, .int 0, .int 0, .int 0, .ref ir, .ref ih, .ref ss, .ref sq, .ref ce, .ref lw, .int 0, .int 0, .int 0, .int 0, .ref wo, .ref he, .int 0, .int 0, .int 0, .ref sk, .ref na, .ref kp, .int 0, .int 0, .int 0, .int 0, .ref gb, .ref go, .ref fa, .ref ga, .int 0, .int 0, .ref vo])), (tp, .inl (G.2.1, 160, .inl (gPf tB 40))), (wo, .inl (G.2.1, 96, .inl (gPf tW 96))), (cd, .inl (G.2.1, 1200, .inl (fun _ => 0))), (sr, .inl (G.2.1, 24, .inl (fun _ => 0))), (he, .inl (G.2.1, 200, .inl (fun _ => 0)))] s.heap := hP
  have hD : va_D A [(h0, .inr (6, [.int 0, .ref kd, .ref mo, .ref st, .int 0, .ref ro, .ref tp, .int 40, .ref cd, .ref sr, .int 0, .int 0, .int 0, .ref ir, .ref ih, .ref ss, .ref sq, .ref ce, .ref lw, .int 0, .int 0, .int 0, .int 0, .ref wo, .ref he, .int 0, .int 0, .int 0, .ref sk, .ref na, .ref kp, .int 0, .int 0, .int 0, .int 0, .ref gb, .ref go, .ref fa, .ref ga, .int 0, .int 0, .ref vo])), (tp, .inl (G.2.1, 160, .inl (gPf tB 40))), (wo, .inl (G.2.1, 96, .inl (gPf tW 96))), (cd, .inl (G.2.1, 1200, .inl (fun _ => 0))), (sr, .inl (G.2.1, 24, .inl (fun _ => 0))), (he, .inl (G.2.1, 200, .inl (fun _ => 0)))] := hD
  have hl := lv_entry ([.ref h0]) (n := 3) (Nat.le_of_ble_eq_true rfl)
  rw [lg_entry_eq]
  generalize (lg_sl ([.ref h0]) ++ List.replicate (3 - (lg_sl ([.ref h0])).length) Slot.unset).toArray = ls at hl ⊢
  have hl : lv_has ls 3 [(0, .ref h0)] := hl
  have kf98 := hts (.fieldLink RX6 98 "PebbleInShoeModel" "texts" "I") (by decide +kernel)
  have hiX6 := (by decide +kernel : ∀ w ∈ wsX60, w ∈ wsX6_text)
  have kf111 := hts (.fieldLink RX6 111 "PebbleInShoeModel" "at" "I") (by decide +kernel)
  have kf127 := hts (.fieldLink RX6 127 "PebbleInShoeModel" "out" "I") (by decide +kernel)
  have kf117 := hts (.fieldLink RX6 117 "PebbleInShoeModel" "token" "I") (by decide +kernel)
  have kf120 := hts (.fieldLink RX6 120 "PebbleInShoeModel" "value" "I") (by decide +kernel)
  have kf28 := hts (.fieldLink RX6 28 "PebbleInShoeModel" "starts" "[I") (by decide +kernel)
  have kf80 := hts (.fieldLink RX6 80 "PebbleInShoeModel" "taped" "I") (by decide +kernel)
  refine lv_aload_n hx hb dX6_text_0 rfl (lv_at hl 0 rfl) ?_
  refine va_get (D := G.1) (ci := 6) (v := .int 0) (C := RX6) (T := TX6) (N := 42) hx hb hts hiX6 hown hK hP 0 rfl rfl 10 (by decide) kf98 (fun _ h9 => h9) rfl dX6_text_1 ?_
  refine lv_bipush (v := 6) hx hb dX6_text_4 (by decide) ?_
  refine lv_icmp_ne (tgt := 12) hx hb dX6_text_6 (by decide) (fun c_1 => ?_) (fun c_1 => ?_)
  rotate_left
  · exact absurd c_1 (by decide)
  refine lv_aload_n hx hb dX6_text_12 rfl (lv_at hl 0 rfl) ?_
  refine lv_iconst (v := 0) hx hb dX6_text_13 (by decide) ?_
  refine va_put (D := G.1) (ci := 6) (v := .int 0) (ty := .int) (C := RX6) (T := TX6) (N := 42) hx hb hts hiX6 tyX6 tyX6_ok nmX6 hown hK hP hD hS 0 rfl rfl 19 (by decide) kf111 (fun _ h9 => h9) rfl (by decide +kernel) rfl rfl (Nat.le_of_ble_eq_true rfl) dX6_text_14 (fun H locs hP hD hS => ?_)
  have hP : va_P G.1 vwCl [(h0, .inr (6, [.int 0, .ref kd, .ref mo, .ref st, .int 0, .ref ro, .ref tp, .int 40, .ref cd, .ref sr, .int 0, .int 0, .int 0, .ref ir, .ref ih, .ref ss, .ref sq, .ref ce, .ref lw, .int 0, .int 0, .int 0, .int 0, .ref wo, .ref he, .int 0, .int 0, .int 0, .ref sk, .ref na, .ref kp, .int 0, .int 0, .int 0, .int 0, .ref gb, .ref go, .ref fa, .ref ga, .int 0, .int 0, .ref vo])), (tp, .inl (G.2.1, 160, .inl (gPf tB 40))), (wo, .inl (G.2.1, 96, .inl (gPf tW 96))), (cd, .inl (G.2.1, 1200, .inl (fun _ => 0))), (sr, .inl (G.2.1, 24, .inl (fun _ => 0))), (he, .inl (G.2.1, 200, .inl (fun _ => 0)))] H := hP
  have hD : va_D A [(h0, .inr (6, [.int 0, .ref kd, .ref mo, .ref st, .int 0, .ref ro, .ref tp, .int 40, .ref cd, .ref sr, .int 0, .int 0, .int 0, .ref ir, .ref ih, .ref ss, .ref sq, .ref ce, .ref lw, .int 0, .int 0, .int 0, .int 0, .ref wo, .ref he, .int 0, .int 0, .int 0, .ref sk, .ref na, .ref kp, .int 0, .int 0, .int 0, .int 0, .ref gb, .ref go, .ref fa, .ref ga, .int 0, .int 0, .ref vo])), (tp, .inl (G.2.1, 160, .inl (gPf tB 40))), (wo, .inl (G.2.1, 96, .inl (gPf tW 96))), (cd, .inl (G.2.1, 1200, .inl (fun _ => 0))), (sr, .inl (G.2.1, 24, .inl (fun _ => 0))), (he, .inl (G.2.1, 200, .inl (fun _ => 0)))] := hD
  refine lv_aload_n hx hb dX6_text_17 rfl (lv_at hl 0 rfl) ?_
  refine lv_iconst (v := 0) hx hb dX6_text_18 (by decide) ?_
  refine va_put (D := G.1) (ci := 6) (v := .int 0) (ty := .int) (C := RX6) (T := TX6) (N := 42) hx hb hts hiX6 tyX6 tyX6_ok nmX6 hown hK hP hD hS 0 rfl rfl 27 (by decide) kf127 (fun _ h9 => h9) rfl (by decide +kernel) rfl rfl (Nat.le_of_ble_eq_true rfl) dX6_text_19 (fun H locs hP hD hS => ?_)
  have hP : va_P G.1 vwCl [(h0, .inr (6, [.int 0, .ref kd, .ref mo, .ref st, .int 0, .ref ro, .ref tp, .int 40, .ref cd, .ref sr, .int 0, .int 0, .int 0, .ref ir, .ref ih, .ref ss, .ref sq, .ref ce, .ref lw, .int 0, .int 0, .int 0, .int 0, .ref wo, .ref he, .int 0, .int 0, .int 0, .ref sk, .ref na, .ref kp, .int 0, .int 0, .int 0, .int 0, .ref gb, .ref go, .ref fa, .ref ga, .int 0, .int 0, .ref vo])), (tp, .inl (G.2.1, 160, .inl (gPf tB 40))), (wo, .inl (G.2.1, 96, .inl (gPf tW 96))), (cd, .inl (G.2.1, 1200, .inl (fun _ => 0))), (sr, .inl (G.2.1, 24, .inl (fun _ => 0))), (he, .inl (G.2.1, 200, .inl (fun _ => 0)))] H := hP
  have hD : va_D A [(h0, .inr (6, [.int 0, .ref kd, .ref mo, .ref st, .int 0, .ref ro, .ref tp, .int 40, .ref cd, .ref sr, .int 0, .int 0, .int 0, .ref ir, .ref ih, .ref ss, .ref sq, .ref ce, .ref lw, .int 0, .int 0, .int 0, .int 0, .ref wo, .ref he, .int 0, .int 0, .int 0, .ref sk, .ref na, .ref kp, .int 0, .int 0, .int 0, .int 0, .ref gb, .ref go, .ref fa, .ref ga, .int 0, .int 0, .ref vo])), (tp, .inl (G.2.1, 160, .inl (gPf tB 40))), (wo, .inl (G.2.1, 96, .inl (gPf tW 96))), (cd, .inl (G.2.1, 1200, .inl (fun _ => 0))), (sr, .inl (G.2.1, 24, .inl (fun _ => 0))), (he, .inl (G.2.1, 200, .inl (fun _ => 0)))] := hD
  refine lv_iconst (v := 1) hx hb dX6_text_22 (by decide) ?_
  refine lv_istore_n (lv' := [(1, .int 1), (0, .ref h0)]) hx hb dX6_text_23 rfl hl (by decide) rfl (fun ls hl => ?_)
  refine lv_iconst (v := 0) hx hb dX6_text_24 (by decide) ?_
  refine lv_istore_n (lv' := [(2, .int 0), (1, .int 1), (0, .ref h0)]) hx hb dX6_text_25 rfl hl (by decide) rfl (fun ls hl => ?_)
  refine lv_iload_n hx hb dX6_text_26 rfl (lv_at hl 0 rfl) ?_
  refine lv_iconst (v := 3) hx hb dX6_text_27 (by decide) ?_
  refine lv_icmp_ge (tgt := 101) hx hb dX6_text_28 (by decide) (fun c_2 => ?_) (fun c_2 => ?_)
  · exact absurd c_2 (by decide)
  refine lv_iload_n hx hb dX6_text_31 rfl (lv_at hl 1 rfl) ?_
  refine lv_if_eq (tgt := 101) hx hb dX6_text_32 (by decide) (fun c_3 => ?_) (fun c_3 => ?_)
  · exact absurd c_3 (by decide)
  refine lv_aload_n hx hb dX6_text_35 rfl (lv_at hl 2 rfl) ?_
  have hPc : va_P G.1 vwCl [(h0, .inr (6, [.int 0, .ref kd, .ref mo, .ref st, .int 0, .ref ro, .ref tp, .int 40, .ref cd, .ref sr, .int 0, .int 0, .int 0, .ref ir, .ref ih, .ref ss, .ref sq, .ref ce, .ref lw, .int 0, .int 0, .int 0, .int 0, .ref wo, .ref he, .int 0, .int 0, .int 0, .ref sk, .ref na, .ref kp, .int 0, .int 0, .int 0, .int 0, .ref gb, .ref go, .ref fa, .ref ga, .int 0, .int 0, .ref vo])), (tp, .inl (G.2.1, 160, .inl (gPf tB 40))), (wo, .inl (G.2.1, 96, .inl (gPf tW 96)))] H := hP.sub [0, 1, 2] rfl
  have hDc : va_D A [(h0, .inr (6, [.int 0, .ref kd, .ref mo, .ref st, .int 0, .ref ro, .ref tp, .int 40, .ref cd, .ref sr, .int 0, .int 0, .int 0, .ref ir, .ref ih, .ref ss, .ref sq, .ref ce, .ref lw, .int 0, .int 0, .int 0, .int 0, .ref wo, .ref he, .int 0, .int 0, .int 0, .ref sk, .ref na, .ref kp, .int 0, .int 0, .int 0, .int 0, .ref gb, .ref go, .ref fa, .ref ga, .int 0, .int 0, .ref vo])), (tp, .inl (G.2.1, 160, .inl (gPf tB 40))), (wo, .inl (G.2.1, 96, .inl (gPf tW 96)))] := hD.sub [0, 1, 2] (by decide) rfl
  have hFc := va_free (wc := [(h0, .inr (6, [.int 0, .ref kd, .ref mo, .ref st, .int 0, .ref ro, .ref tp, .int 40, .ref cd, .ref sr, .int 0, .int 0, .int 0, .ref ir, .ref ih, .ref ss, .ref sq, .ref ce, .ref lw, .int 0, .int 0, .int 0, .int 0, .ref wo, .ref he, .int 0, .int 0, .int 0, .ref sk, .ref na, .ref kp, .int 0, .int 0, .int 0, .int 0, .ref gb, .ref go, .ref fa, .ref ga, .int 0, .int 0, .ref vo])), (tp, .inl (G.2.1, 160, .inl (gPf tB 40))), (wo, .inl (G.2.1, 96, .inl (gPf tW 96)))]) hD hS hA [0, 1, 2] rfl
  refine va_callv (va_runV (As := []) (rest := []) ⟨hx, hb, hml, hown, hts⟩ (c_X6_next_z1 l G h0 kd mo st ro tp cd sr ir ih ss sq ce lw wo he sk na kp gb go fa ga vo H.size) (cwV 0 hts gX6_text_X6_next rfl rfl rfl (by decide +kernel) ⟨Nat.le_of_ble_eq_true rfl, Nat.le_of_ble_eq_true rfl⟩) ⟨gPre_blind, va_recv hK hPc (ci := 6) (q0 := 0) rfl rfl, fun U hU hW => gPre_of hU hW hK hPc hDc⟩ rfl rfl hl.1 rfl (lv_room (Nat.le_of_ble_eq_true rfl)) dX6_text_36 ⟨Nat.le_of_ble_eq_true rfl, Nat.le_of_ble_eq_true rfl⟩) hS (fun q _ h => hFc q h) hFc (fun u t H locs ht hvm w_5 hB hz1 hk1 hS => ?_)
  obtain ⟨hP1, hK1, hD1⟩ := hB
  rw [ht] at hP1
  have hP1 : va_P G.1 vwCl [(h0, .inr (6, [.int 0, .ref kd, .ref mo, .ref st, .int 0, .ref ro, .ref tp, .int 40, .ref cd, .ref sr, .int 0, .int 0, .int 0, .ref ir, .ref ih, .ref ss, .ref sq, .ref ce, .ref lw, .int 5, .int 0, .int 3, .int 0, .ref wo, .ref he, .int 0, .int 0, .int 0, .ref sk, .ref na, .ref kp, .int 0, .int 0, .int 0, .int 0, .ref gb, .ref go, .ref fa, .ref ga, .int 0, .int 0, .ref vo])), (tp, .inl (G.2.1, 160, .inl (gPf tB 40))), (wo, .inl (G.2.1, 96, .inl (gPf tW 96)))] H := hP1
  have hD1 : va_D (va_A [(h0, .inr (6, [.int 0, .ref kd, .ref mo, .ref st, .int 0, .ref ro, .ref tp, .int 40, .ref cd, .ref sr, .int 0, .int 0, .int 0, .ref ir, .ref ih, .ref ss, .ref sq, .ref ce, .ref lw, .int 0, .int 0, .int 0, .int 0, .ref wo, .ref he, .int 0, .int 0, .int 0, .ref sk, .ref na, .ref kp, .int 0, .int 0, .int 0, .int 0, .ref gb, .ref go, .ref fa, .ref ga, .int 0, .int 0, .ref vo])), (tp, .inl (G.2.1, 160, .inl (gPf tB 40))), (wo, .inl (G.2.1, 96, .inl (gPf tW 96)))] _) [(h0, .inr (6, [.int 0, .ref kd, .ref mo, .ref st, .int 0, .ref ro, .ref tp, .int 40, .ref cd, .ref sr, .int 0, .int 0, .int 0, .ref ir, .ref ih, .ref ss, .ref sq, .ref ce, .ref lw, .int 5, .int 0, .int 3, .int 0, .ref wo, .ref he, .int 0, .int 0, .int 0, .ref sk, .ref na, .ref kp, .int 0, .int 0, .int 0, .int 0, .ref gb, .ref go, .ref fa, .ref ga, .int 0, .int 0, .ref vo])), (tp, .inl (G.2.1, 160, .inl (gPf tB 40))), (wo, .inl (G.2.1, 96, .inl (gPf tW 96)))] := hD1
  obtain ⟨hP, hD⟩ := va_join (wr := [(cd, .inl (G.2.1, 1200, .inl (fun _ => 0))), (sr, .inl (G.2.1, 24, .inl (fun _ => 0))), (he, .inl (G.2.1, 200, .inl (fun _ => 0)))]) (w1 := [(h0, .inr (6, [.int 0, .ref kd, .ref mo, .ref st, .int 0, .ref ro, .ref tp, .int 40, .ref cd, .ref sr, .int 0, .int 0, .int 0, .ref ir, .ref ih, .ref ss, .ref sq, .ref ce, .ref lw, .int 5, .int 0, .int 3, .int 0, .ref wo, .ref he, .int 0, .int 0, .int 0, .ref sk, .ref na, .ref kp, .int 0, .int 0, .int 0, .int 0, .ref gb, .ref go, .ref fa, .ref ga, .int 0, .int 0, .ref vo])), (tp, .inl (G.2.1, 160, .inl (gPf tB 40))), (wo, .inl (G.2.1, 96, .inl (gPf tW 96)))]) hP hD [0, 1, 2] [3, 4, 5] rfl rfl (by decide) (by decide) hk1 hFc hP1 hD1
  have hP : va_P G.1 vwCl [(cd, .inl (G.2.1, 1200, .inl (fun _ => 0))), (sr, .inl (G.2.1, 24, .inl (fun _ => 0))), (he, .inl (G.2.1, 200, .inl (fun _ => 0))), (h0, .inr (6, [.int 0, .ref kd, .ref mo, .ref st, .int 0, .ref ro, .ref tp, .int 40, .ref cd, .ref sr, .int 0, .int 0, .int 0, .ref ir, .ref ih, .ref ss, .ref sq, .ref ce, .ref lw, .int 5, .int 0, .int 3, .int 0, .ref wo, .ref he, .int 0, .int 0, .int 0, .ref sk, .ref na, .ref kp, .int 0, .int 0, .int 0, .int 0, .ref gb, .ref go, .ref fa, .ref ga, .int 0, .int 0, .ref vo])), (tp, .inl (G.2.1, 160, .inl (gPf tB 40))), (wo, .inl (G.2.1, 96, .inl (gPf tW 96)))] H := hP
  have hD : va_D A [(cd, .inl (G.2.1, 1200, .inl (fun _ => 0))), (sr, .inl (G.2.1, 24, .inl (fun _ => 0))), (he, .inl (G.2.1, 200, .inl (fun _ => 0))), (h0, .inr (6, [.int 0, .ref kd, .ref mo, .ref st, .int 0, .ref ro, .ref tp, .int 40, .ref cd, .ref sr, .int 0, .int 0, .int 0, .ref ir, .ref ih, .ref ss, .ref sq, .ref ce, .ref lw, .int 5, .int 0, .int 3, .int 0, .ref wo, .ref he, .int 0, .int 0, .int 0, .ref sk, .ref na, .ref kp, .int 0, .int 0, .int 0, .int 0, .ref gb, .ref go, .ref fa, .ref ga, .int 0, .int 0, .ref vo])), (tp, .inl (G.2.1, 160, .inl (gPf tB 40))), (wo, .inl (G.2.1, 96, .inl (gPf tW 96)))] := hD
  refine lv_aload_n hx hb dX6_text_39 rfl (lv_at hl 2 rfl) ?_
  refine va_get (D := G.1) (ci := 6) (v := .int 3) (C := RX6) (T := TX6) (N := 42) hx hb hts hiX6 hown hK hP 3 rfl rfl 21 (by decide) kf117 (fun _ h9 => h9) rfl dX6_text_40 ?_
  refine lv_iconst (v := 3) hx hb dX6_text_43 (by decide) ?_
  refine lv_icmp_ne (tgt := 59) hx hb dX6_text_44 (by decide) (fun c_6 => ?_) (fun c_6 => ?_)
  · exact absurd (by decide) c_6
  refine lv_aload_n hx hb dX6_text_47 rfl (lv_at hl 2 rfl) ?_
  refine va_get (D := G.1) (ci := 6) (v := .int 0) (C := RX6) (T := TX6) (N := 42) hx hb hts hiX6 hown hK hP 3 rfl rfl 22 (by decide) kf120 (fun _ h9 => h9) rfl dX6_text_48 ?_
  refine lv_iload_n hx hb dX6_text_51 rfl (lv_at hl 0 rfl) ?_
  refine lv_icmp_ne (tgt := 59) hx hb dX6_text_52 (by decide) (fun c_7 => ?_) (fun c_7 => ?_)
  · exact absurd (by decide) c_7
  refine lv_iconst (v := 1) hx hb dX6_text_55 (by decide) ?_
  refine lv_goto (tgt := 60) hx hb dX6_text_56 (by decide) ?_
  refine lv_istore_n (lv' := [(1, .int 1), (2, .int 0), (0, .ref h0)]) hx hb dX6_text_60 rfl hl (by decide) rfl (fun ls hl => ?_)
  refine lv_aload_n hx hb dX6_text_61 rfl (lv_at hl 2 rfl) ?_
  refine va_get (D := G.1) (ci := 6) (v := .ref sr) (C := RX6) (T := TX6) (N := 42) hx hb hts hiX6 hown hK hP 3 rfl rfl 9 (by decide) kf28 (fun _ h9 => h9) rfl dX6_text_62 ?_
  refine lv_iconst (v := 4) hx hb dX6_text_65 (by decide) ?_
  refine lv_aload_n hx hb dX6_text_66 rfl (lv_at hl 2 rfl) ?_
  refine va_get (D := G.1) (ci := 6) (v := .int 0) (C := RX6) (T := TX6) (N := 42) hx hb hts hiX6 hown hK hP 3 rfl rfl 10 (by decide) kf98 (fun _ h9 => h9) rfl dX6_text_67 ?_
  refine lv_imul hx hb dX6_text_70 ?_
  refine lv_topi (fun v_8 ev_8 => ?_)
  have ev_8 : v_8 = 0 := ev_8.trans (by decide)
  subst ev_8
  refine lv_iload_n hx hb dX6_text_71 rfl (lv_at hl 1 rfl) ?_
  refine lv_iadd hx hb dX6_text_72 ?_
  refine lv_topi (fun v_9 ev_9 => ?_)
  have ev_9 : v_9 = 0 := ev_9.trans (by decide)
  subst ev_9
  refine lv_aload_n hx hb dX6_text_73 rfl (lv_at hl 2 rfl) ?_
  refine va_get (D := G.1) (ci := 6) (v := .int 0) (C := RX6) (T := TX6) (N := 42) hx hb hts hiX6 hown hK hP 3 rfl rfl 27 (by decide) kf127 (fun _ h9 => h9) rfl dX6_text_74 ?_
  refine va_iast (D := G.1) hx hb hK hP hD hS 1 0 rfl rfl (i := 0) (x := 0) (gIn (by decide)) dX6_text_77 (fun H locs hP hD hS => ?_)
  have hP : va_P G.1 vwCl [(cd, .inl (G.2.1, 1200, .inl (fun _ => 0))), (sr, .inl (G.2.1, 24, .inl (upd (fun _ => 0) 0 0))), (he, .inl (G.2.1, 200, .inl (fun _ => 0))), (h0, .inr (6, [.int 0, .ref kd, .ref mo, .ref st, .int 0, .ref ro, .ref tp, .int 40, .ref cd, .ref sr, .int 0, .int 0, .int 0, .ref ir, .ref ih, .ref ss, .ref sq, .ref ce, .ref lw, .int 5, .int 0, .int 3, .int 0, .ref wo, .ref he, .int 0, .int 0, .int 0, .ref sk, .ref na, .ref kp, .int 0, .int 0, .int 0, .int 0, .ref gb, .ref go, .ref fa, .ref ga, .int 0, .int 0, .ref vo])), (tp, .inl (G.2.1, 160, .inl (gPf tB 40))), (wo, .inl (G.2.1, 96, .inl (gPf tW 96)))] H := hP
  have hD : va_D A [(cd, .inl (G.2.1, 1200, .inl (fun _ => 0))), (sr, .inl (G.2.1, 24, .inl (upd (fun _ => 0) 0 0))), (he, .inl (G.2.1, 200, .inl (fun _ => 0))), (h0, .inr (6, [.int 0, .ref kd, .ref mo, .ref st, .int 0, .ref ro, .ref tp, .int 40, .ref cd, .ref sr, .int 0, .int 0, .int 0, .ref ir, .ref ih, .ref ss, .ref sq, .ref ce, .ref lw, .int 5, .int 0, .int 3, .int 0, .ref wo, .ref he, .int 0, .int 0, .int 0, .ref sk, .ref na, .ref kp, .int 0, .int 0, .int 0, .int 0, .ref gb, .ref go, .ref fa, .ref ga, .int 0, .int 0, .ref vo])), (tp, .inl (G.2.1, 160, .inl (gPf tB 40))), (wo, .inl (G.2.1, 96, .inl (gPf tW 96)))] := hD
  refine lv_iload_n hx hb dX6_text_78 rfl (lv_at hl 0 rfl) ?_
  refine lv_if_eq (tgt := 93) hx hb dX6_text_79 (by decide) (fun c_10 => ?_) (fun c_10 => ?_)
  · exact absurd c_10 (by decide)
  refine lv_aload_n hx hb dX6_text_82 rfl (lv_at hl 2 rfl) ?_
  have hPc : va_P G.1 vwCl [(cd, .inl (G.2.1, 1200, .inl (fun _ => 0))), (he, .inl (G.2.1, 200, .inl (fun _ => 0))), (h0, .inr (6, [.int 0, .ref kd, .ref mo, .ref st, .int 0, .ref ro, .ref tp, .int 40, .ref cd, .ref sr, .int 0, .int 0, .int 0, .ref ir, .ref ih, .ref ss, .ref sq, .ref ce, .ref lw, .int 5, .int 0, .int 3, .int 0, .ref wo, .ref he, .int 0, .int 0, .int 0, .ref sk, .ref na, .ref kp, .int 0, .int 0, .int 0, .int 0, .ref gb, .ref go, .ref fa, .ref ga, .int 0, .int 0, .ref vo])), (tp, .inl (G.2.1, 160, .inl (gPf tB 40))), (wo, .inl (G.2.1, 96, .inl (gPf tW 96)))] H := hP.sub [0, 2, 3, 4, 5] rfl
  have hDc : va_D A [(cd, .inl (G.2.1, 1200, .inl (fun _ => 0))), (he, .inl (G.2.1, 200, .inl (fun _ => 0))), (h0, .inr (6, [.int 0, .ref kd, .ref mo, .ref st, .int 0, .ref ro, .ref tp, .int 40, .ref cd, .ref sr, .int 0, .int 0, .int 0, .ref ir, .ref ih, .ref ss, .ref sq, .ref ce, .ref lw, .int 5, .int 0, .int 3, .int 0, .ref wo, .ref he, .int 0, .int 0, .int 0, .ref sk, .ref na, .ref kp, .int 0, .int 0, .int 0, .int 0, .ref gb, .ref go, .ref fa, .ref ga, .int 0, .int 0, .ref vo])), (tp, .inl (G.2.1, 160, .inl (gPf tB 40))), (wo, .inl (G.2.1, 96, .inl (gPf tW 96)))] := hD.sub [0, 2, 3, 4, 5] (by decide) rfl
  have hFc := va_free (wc := [(cd, .inl (G.2.1, 1200, .inl (fun _ => 0))), (he, .inl (G.2.1, 200, .inl (fun _ => 0))), (h0, .inr (6, [.int 0, .ref kd, .ref mo, .ref st, .int 0, .ref ro, .ref tp, .int 40, .ref cd, .ref sr, .int 0, .int 0, .int 0, .ref ir, .ref ih, .ref ss, .ref sq, .ref ce, .ref lw, .int 5, .int 0, .int 3, .int 0, .ref wo, .ref he, .int 0, .int 0, .int 0, .ref sk, .ref na, .ref kp, .int 0, .int 0, .int 0, .int 0, .ref gb, .ref go, .ref fa, .ref ga, .int 0, .int 0, .ref vo])), (tp, .inl (G.2.1, 160, .inl (gPf tB 40))), (wo, .inl (G.2.1, 96, .inl (gPf tW 96)))]) hD hS hA [0, 2, 3, 4, 5] rfl
  refine va_calli (va_runV (As := []) (rest := []) ⟨hx, hb, hml, hown, hts⟩ (c_X6_eRead_z8 l G h0 cd he kd mo st ro tp sr ir ih ss sq ce lw wo sk na kp gb go fa ga vo H.size) (cwV 0 hts gX6_text_X6_eRead rfl rfl rfl (by decide +kernel) ⟨Nat.le_of_ble_eq_true rfl, Nat.le_of_ble_eq_true rfl⟩) ⟨gPre_blind, va_recv hK hPc (ci := 6) (q0 := 2) rfl rfl, fun U hU hW => gPre_of hU hW hK hPc hDc⟩ rfl rfl hl.1 rfl (lv_room (Nat.le_of_ble_eq_true rfl)) dX6_text_83 ⟨Nat.le_of_ble_eq_true rfl, Nat.le_of_ble_eq_true rfl⟩) hS (fun q _ h => hFc q h) hFc (fun r_11 u t H locs ht hvm w_12 hB hz1 hk1 hS => ?_)
  obtain ⟨hP1, hK1, hD1⟩ := hB
  rw [ht] at hP1
  have hP1 : va_P G.1 vwCl [(cd, .inl (G.2.1, 1200, .inl (upd (upd (upd (fun _ => 0) 0 0) 1 1) 2 17))), (he, .inl (G.2.1, 200, .inl (upd (fun _ => 0) 0 17))), (h0, .inr (6, [.int 0, .ref kd, .ref mo, .ref st, .int 0, .ref ro, .ref tp, .int 40, .ref cd, .ref sr, .int 0, .int 0, .int 0, .ref ir, .ref ih, .ref ss, .ref sq, .ref ce, .ref lw, .int 20, .int 19, .int 59, .int 0, .ref wo, .ref he, .int 0, .int 0, .int 3, .ref sk, .ref na, .ref kp, .int 0, .int 0, .int 0, .int 0, .ref gb, .ref go, .ref fa, .ref ga, .int 0, .int 0, .ref vo])), (tp, .inl (G.2.1, 160, .inl (gPf tB 40))), (wo, .inl (G.2.1, 96, .inl (gPf tW 96)))] H := hP1
  have hD1 : va_D (va_A [(cd, .inl (G.2.1, 1200, .inl (fun _ => 0))), (he, .inl (G.2.1, 200, .inl (fun _ => 0))), (h0, .inr (6, [.int 0, .ref kd, .ref mo, .ref st, .int 0, .ref ro, .ref tp, .int 40, .ref cd, .ref sr, .int 0, .int 0, .int 0, .ref ir, .ref ih, .ref ss, .ref sq, .ref ce, .ref lw, .int 5, .int 0, .int 3, .int 0, .ref wo, .ref he, .int 0, .int 0, .int 0, .ref sk, .ref na, .ref kp, .int 0, .int 0, .int 0, .int 0, .ref gb, .ref go, .ref fa, .ref ga, .int 0, .int 0, .ref vo])), (tp, .inl (G.2.1, 160, .inl (gPf tB 40))), (wo, .inl (G.2.1, 96, .inl (gPf tW 96)))] _) [(cd, .inl (G.2.1, 1200, .inl (upd (upd (upd (fun _ => 0) 0 0) 1 1) 2 17))), (he, .inl (G.2.1, 200, .inl (upd (fun _ => 0) 0 17))), (h0, .inr (6, [.int 0, .ref kd, .ref mo, .ref st, .int 0, .ref ro, .ref tp, .int 40, .ref cd, .ref sr, .int 0, .int 0, .int 0, .ref ir, .ref ih, .ref ss, .ref sq, .ref ce, .ref lw, .int 20, .int 19, .int 59, .int 0, .ref wo, .ref he, .int 0, .int 0, .int 3, .ref sk, .ref na, .ref kp, .int 0, .int 0, .int 0, .int 0, .ref gb, .ref go, .ref fa, .ref ga, .int 0, .int 0, .ref vo])), (tp, .inl (G.2.1, 160, .inl (gPf tB 40))), (wo, .inl (G.2.1, 96, .inl (gPf tW 96)))] := hD1
  have w_12 : r_11 = 1 := w_12
  obtain ⟨hP, hD⟩ := va_join (wr := [(sr, .inl (G.2.1, 24, .inl (upd (fun _ => 0) 0 0)))]) (w1 := [(cd, .inl (G.2.1, 1200, .inl (upd (upd (upd (fun _ => 0) 0 0) 1 1) 2 17))), (he, .inl (G.2.1, 200, .inl (upd (fun _ => 0) 0 17))), (h0, .inr (6, [.int 0, .ref kd, .ref mo, .ref st, .int 0, .ref ro, .ref tp, .int 40, .ref cd, .ref sr, .int 0, .int 0, .int 0, .ref ir, .ref ih, .ref ss, .ref sq, .ref ce, .ref lw, .int 20, .int 19, .int 59, .int 0, .ref wo, .ref he, .int 0, .int 0, .int 3, .ref sk, .ref na, .ref kp, .int 0, .int 0, .int 0, .int 0, .ref gb, .ref go, .ref fa, .ref ga, .int 0, .int 0, .ref vo])), (tp, .inl (G.2.1, 160, .inl (gPf tB 40))), (wo, .inl (G.2.1, 96, .inl (gPf tW 96)))]) hP hD [0, 2, 3, 4, 5] [1] rfl rfl (by decide) (by decide) hk1 hFc hP1 hD1
  have hP : va_P G.1 vwCl [(sr, .inl (G.2.1, 24, .inl (upd (fun _ => 0) 0 0))), (cd, .inl (G.2.1, 1200, .inl (upd (upd (upd (fun _ => 0) 0 0) 1 1) 2 17))), (he, .inl (G.2.1, 200, .inl (upd (fun _ => 0) 0 17))), (h0, .inr (6, [.int 0, .ref kd, .ref mo, .ref st, .int 0, .ref ro, .ref tp, .int 40, .ref cd, .ref sr, .int 0, .int 0, .int 0, .ref ir, .ref ih, .ref ss, .ref sq, .ref ce, .ref lw, .int 20, .int 19, .int 59, .int 0, .ref wo, .ref he, .int 0, .int 0, .int 3, .ref sk, .ref na, .ref kp, .int 0, .int 0, .int 0, .int 0, .ref gb, .ref go, .ref fa, .ref ga, .int 0, .int 0, .ref vo])), (tp, .inl (G.2.1, 160, .inl (gPf tB 40))), (wo, .inl (G.2.1, 96, .inl (gPf tW 96)))] H := hP
  have hD : va_D A [(sr, .inl (G.2.1, 24, .inl (upd (fun _ => 0) 0 0))), (cd, .inl (G.2.1, 1200, .inl (upd (upd (upd (fun _ => 0) 0 0) 1 1) 2 17))), (he, .inl (G.2.1, 200, .inl (upd (fun _ => 0) 0 17))), (h0, .inr (6, [.int 0, .ref kd, .ref mo, .ref st, .int 0, .ref ro, .ref tp, .int 40, .ref cd, .ref sr, .int 0, .int 0, .int 0, .ref ir, .ref ih, .ref ss, .ref sq, .ref ce, .ref lw, .int 20, .int 19, .int 59, .int 0, .ref wo, .ref he, .int 0, .int 0, .int 3, .ref sk, .ref na, .ref kp, .int 0, .int 0, .int 0, .int 0, .ref gb, .ref go, .ref fa, .ref ga, .int 0, .int 0, .ref vo])), (tp, .inl (G.2.1, 160, .inl (gPf tB 40))), (wo, .inl (G.2.1, 96, .inl (gPf tW 96)))] := hD
  have w_12 : r_11 = 1 := w_12
  subst w_12
  refine lv_if_eq (tgt := 93) hx hb dX6_text_86 (by decide) (fun c_13 => ?_) (fun c_13 => ?_)
  · exact absurd c_13 (by decide)
  refine lv_iconst (v := 1) hx hb dX6_text_89 (by decide) ?_
  refine lv_goto (tgt := 94) hx hb dX6_text_90 (by decide) ?_
  refine lv_istore_n (lv' := [(1, .int 1), (2, .int 0), (0, .ref h0)]) hx hb dX6_text_94 rfl hl (by decide) rfl (fun ls hl => ?_)
  refine lv_iinc (v := 1) (lv' := [(2, .int 1), (1, .int 1), (0, .ref h0)]) hx hb dX6_text_95 hl (k := 1) rfl (by decide) (by decide) rfl (fun ls hl => ?_)
  refine lv_goto (tgt := 26) hx hb dX6_text_98 (by decide) ?_
  refine lv_iload_n hx hb dX6_text_26 rfl (lv_at hl 0 rfl) ?_
  refine lv_iconst (v := 3) hx hb dX6_text_27 (by decide) ?_
  refine lv_icmp_ge (tgt := 101) hx hb dX6_text_28 (by decide) (fun c_14 => ?_) (fun c_14 => ?_)
  · exact absurd c_14 (by decide)
  refine lv_iload_n hx hb dX6_text_31 rfl (lv_at hl 1 rfl) ?_
  refine lv_if_eq (tgt := 101) hx hb dX6_text_32 (by decide) (fun c_15 => ?_) (fun c_15 => ?_)
  · exact absurd c_15 (by decide)
  refine lv_aload_n hx hb dX6_text_35 rfl (lv_at hl 2 rfl) ?_
  have hPc : va_P G.1 vwCl [(h0, .inr (6, [.int 0, .ref kd, .ref mo, .ref st, .int 0, .ref ro, .ref tp, .int 40, .ref cd, .ref sr, .int 0, .int 0, .int 0, .ref ir, .ref ih, .ref ss, .ref sq, .ref ce, .ref lw, .int 20, .int 19, .int 59, .int 0, .ref wo, .ref he, .int 0, .int 0, .int 3, .ref sk, .ref na, .ref kp, .int 0, .int 0, .int 0, .int 0, .ref gb, .ref go, .ref fa, .ref ga, .int 0, .int 0, .ref vo])), (tp, .inl (G.2.1, 160, .inl (gPf tB 40))), (wo, .inl (G.2.1, 96, .inl (gPf tW 96)))] H := hP.sub [3, 4, 5] rfl
  have hDc : va_D A [(h0, .inr (6, [.int 0, .ref kd, .ref mo, .ref st, .int 0, .ref ro, .ref tp, .int 40, .ref cd, .ref sr, .int 0, .int 0, .int 0, .ref ir, .ref ih, .ref ss, .ref sq, .ref ce, .ref lw, .int 20, .int 19, .int 59, .int 0, .ref wo, .ref he, .int 0, .int 0, .int 3, .ref sk, .ref na, .ref kp, .int 0, .int 0, .int 0, .int 0, .ref gb, .ref go, .ref fa, .ref ga, .int 0, .int 0, .ref vo])), (tp, .inl (G.2.1, 160, .inl (gPf tB 40))), (wo, .inl (G.2.1, 96, .inl (gPf tW 96)))] := hD.sub [3, 4, 5] (by decide) rfl
  have hFc := va_free (wc := [(h0, .inr (6, [.int 0, .ref kd, .ref mo, .ref st, .int 0, .ref ro, .ref tp, .int 40, .ref cd, .ref sr, .int 0, .int 0, .int 0, .ref ir, .ref ih, .ref ss, .ref sq, .ref ce, .ref lw, .int 20, .int 19, .int 59, .int 0, .ref wo, .ref he, .int 0, .int 0, .int 3, .ref sk, .ref na, .ref kp, .int 0, .int 0, .int 0, .int 0, .ref gb, .ref go, .ref fa, .ref ga, .int 0, .int 0, .ref vo])), (tp, .inl (G.2.1, 160, .inl (gPf tB 40))), (wo, .inl (G.2.1, 96, .inl (gPf tW 96)))]) hD hS hA [3, 4, 5] rfl
  refine va_callv (va_runV (As := []) (rest := []) ⟨hx, hb, hml, hown, hts⟩ (c_X6_next_z37 l G h0 kd mo st ro tp cd sr ir ih ss sq ce lw wo he sk na kp gb go fa ga vo H.size) (cwV 0 hts gX6_text_X6_next rfl rfl rfl (by decide +kernel) ⟨Nat.le_of_ble_eq_true rfl, Nat.le_of_ble_eq_true rfl⟩) ⟨gPre_blind, va_recv hK hPc (ci := 6) (q0 := 0) rfl rfl, fun U hU hW => gPre_of hU hW hK hPc hDc⟩ rfl rfl hl.1 rfl (lv_room (Nat.le_of_ble_eq_true rfl)) dX6_text_36 ⟨Nat.le_of_ble_eq_true rfl, Nat.le_of_ble_eq_true rfl⟩) hS (fun q _ h => hFc q h) hFc (fun u t H locs ht hvm w_17 hB hz1 hk1 hS => ?_)
  obtain ⟨hP1, hK1, hD1⟩ := hB
  rw [ht] at hP1
  have hP1 : va_P G.1 vwCl [(h0, .inr (6, [.int 0, .ref kd, .ref mo, .ref st, .int 0, .ref ro, .ref tp, .int 40, .ref cd, .ref sr, .int 0, .int 0, .int 0, .ref ir, .ref ih, .ref ss, .ref sq, .ref ce, .ref lw, .int 26, .int 21, .int 3, .int 1, .ref wo, .ref he, .int 0, .int 0, .int 3, .ref sk, .ref na, .ref kp, .int 0, .int 0, .int 0, .int 0, .ref gb, .ref go, .ref fa, .ref ga, .int 0, .int 0, .ref vo])), (tp, .inl (G.2.1, 160, .inl (gPf tB 40))), (wo, .inl (G.2.1, 96, .inl (gPf tW 96)))] H := hP1
  have hD1 : va_D (va_A [(h0, .inr (6, [.int 0, .ref kd, .ref mo, .ref st, .int 0, .ref ro, .ref tp, .int 40, .ref cd, .ref sr, .int 0, .int 0, .int 0, .ref ir, .ref ih, .ref ss, .ref sq, .ref ce, .ref lw, .int 20, .int 19, .int 59, .int 0, .ref wo, .ref he, .int 0, .int 0, .int 3, .ref sk, .ref na, .ref kp, .int 0, .int 0, .int 0, .int 0, .ref gb, .ref go, .ref fa, .ref ga, .int 0, .int 0, .ref vo])), (tp, .inl (G.2.1, 160, .inl (gPf tB 40))), (wo, .inl (G.2.1, 96, .inl (gPf tW 96)))] _) [(h0, .inr (6, [.int 0, .ref kd, .ref mo, .ref st, .int 0, .ref ro, .ref tp, .int 40, .ref cd, .ref sr, .int 0, .int 0, .int 0, .ref ir, .ref ih, .ref ss, .ref sq, .ref ce, .ref lw, .int 26, .int 21, .int 3, .int 1, .ref wo, .ref he, .int 0, .int 0, .int 3, .ref sk, .ref na, .ref kp, .int 0, .int 0, .int 0, .int 0, .ref gb, .ref go, .ref fa, .ref ga, .int 0, .int 0, .ref vo])), (tp, .inl (G.2.1, 160, .inl (gPf tB 40))), (wo, .inl (G.2.1, 96, .inl (gPf tW 96)))] := hD1
  obtain ⟨hP, hD⟩ := va_join (wr := [(sr, .inl (G.2.1, 24, .inl (upd (fun _ => 0) 0 0))), (cd, .inl (G.2.1, 1200, .inl (upd (upd (upd (fun _ => 0) 0 0) 1 1) 2 17))), (he, .inl (G.2.1, 200, .inl (upd (fun _ => 0) 0 17)))]) (w1 := [(h0, .inr (6, [.int 0, .ref kd, .ref mo, .ref st, .int 0, .ref ro, .ref tp, .int 40, .ref cd, .ref sr, .int 0, .int 0, .int 0, .ref ir, .ref ih, .ref ss, .ref sq, .ref ce, .ref lw, .int 26, .int 21, .int 3, .int 1, .ref wo, .ref he, .int 0, .int 0, .int 3, .ref sk, .ref na, .ref kp, .int 0, .int 0, .int 0, .int 0, .ref gb, .ref go, .ref fa, .ref ga, .int 0, .int 0, .ref vo])), (tp, .inl (G.2.1, 160, .inl (gPf tB 40))), (wo, .inl (G.2.1, 96, .inl (gPf tW 96)))]) hP hD [3, 4, 5] [0, 1, 2] rfl rfl (by decide) (by decide) hk1 hFc hP1 hD1
  have hP : va_P G.1 vwCl [(sr, .inl (G.2.1, 24, .inl (upd (fun _ => 0) 0 0))), (cd, .inl (G.2.1, 1200, .inl (upd (upd (upd (fun _ => 0) 0 0) 1 1) 2 17))), (he, .inl (G.2.1, 200, .inl (upd (fun _ => 0) 0 17))), (h0, .inr (6, [.int 0, .ref kd, .ref mo, .ref st, .int 0, .ref ro, .ref tp, .int 40, .ref cd, .ref sr, .int 0, .int 0, .int 0, .ref ir, .ref ih, .ref ss, .ref sq, .ref ce, .ref lw, .int 26, .int 21, .int 3, .int 1, .ref wo, .ref he, .int 0, .int 0, .int 3, .ref sk, .ref na, .ref kp, .int 0, .int 0, .int 0, .int 0, .ref gb, .ref go, .ref fa, .ref ga, .int 0, .int 0, .ref vo])), (tp, .inl (G.2.1, 160, .inl (gPf tB 40))), (wo, .inl (G.2.1, 96, .inl (gPf tW 96)))] H := hP
  have hD : va_D A [(sr, .inl (G.2.1, 24, .inl (upd (fun _ => 0) 0 0))), (cd, .inl (G.2.1, 1200, .inl (upd (upd (upd (fun _ => 0) 0 0) 1 1) 2 17))), (he, .inl (G.2.1, 200, .inl (upd (fun _ => 0) 0 17))), (h0, .inr (6, [.int 0, .ref kd, .ref mo, .ref st, .int 0, .ref ro, .ref tp, .int 40, .ref cd, .ref sr, .int 0, .int 0, .int 0, .ref ir, .ref ih, .ref ss, .ref sq, .ref ce, .ref lw, .int 26, .int 21, .int 3, .int 1, .ref wo, .ref he, .int 0, .int 0, .int 3, .ref sk, .ref na, .ref kp, .int 0, .int 0, .int 0, .int 0, .ref gb, .ref go, .ref fa, .ref ga, .int 0, .int 0, .ref vo])), (tp, .inl (G.2.1, 160, .inl (gPf tB 40))), (wo, .inl (G.2.1, 96, .inl (gPf tW 96)))] := hD
  refine lv_aload_n hx hb dX6_text_39 rfl (lv_at hl 2 rfl) ?_
  refine va_get (D := G.1) (ci := 6) (v := .int 3) (C := RX6) (T := TX6) (N := 42) hx hb hts hiX6 hown hK hP 3 rfl rfl 21 (by decide) kf117 (fun _ h9 => h9) rfl dX6_text_40 ?_
  refine lv_iconst (v := 3) hx hb dX6_text_43 (by decide) ?_
  refine lv_icmp_ne (tgt := 59) hx hb dX6_text_44 (by decide) (fun c_18 => ?_) (fun c_18 => ?_)
  · exact absurd (by decide) c_18
  refine lv_aload_n hx hb dX6_text_47 rfl (lv_at hl 2 rfl) ?_
  refine va_get (D := G.1) (ci := 6) (v := .int 1) (C := RX6) (T := TX6) (N := 42) hx hb hts hiX6 hown hK hP 3 rfl rfl 22 (by decide) kf120 (fun _ h9 => h9) rfl dX6_text_48 ?_
  refine lv_iload_n hx hb dX6_text_51 rfl (lv_at hl 0 rfl) ?_
  refine lv_icmp_ne (tgt := 59) hx hb dX6_text_52 (by decide) (fun c_19 => ?_) (fun c_19 => ?_)
  · exact absurd (by decide) c_19
  refine lv_iconst (v := 1) hx hb dX6_text_55 (by decide) ?_
  refine lv_goto (tgt := 60) hx hb dX6_text_56 (by decide) ?_
  refine lv_istore_n (lv' := [(1, .int 1), (2, .int 1), (0, .ref h0)]) hx hb dX6_text_60 rfl hl (by decide) rfl (fun ls hl => ?_)
  refine lv_aload_n hx hb dX6_text_61 rfl (lv_at hl 2 rfl) ?_
  refine va_get (D := G.1) (ci := 6) (v := .ref sr) (C := RX6) (T := TX6) (N := 42) hx hb hts hiX6 hown hK hP 3 rfl rfl 9 (by decide) kf28 (fun _ h9 => h9) rfl dX6_text_62 ?_
  refine lv_iconst (v := 4) hx hb dX6_text_65 (by decide) ?_
  refine lv_aload_n hx hb dX6_text_66 rfl (lv_at hl 2 rfl) ?_
  refine va_get (D := G.1) (ci := 6) (v := .int 0) (C := RX6) (T := TX6) (N := 42) hx hb hts hiX6 hown hK hP 3 rfl rfl 10 (by decide) kf98 (fun _ h9 => h9) rfl dX6_text_67 ?_
  refine lv_imul hx hb dX6_text_70 ?_
  refine lv_topi (fun v_20 ev_20 => ?_)
  have ev_20 : v_20 = 0 := ev_20.trans (by decide)
  subst ev_20
  refine lv_iload_n hx hb dX6_text_71 rfl (lv_at hl 1 rfl) ?_
  refine lv_iadd hx hb dX6_text_72 ?_
  refine lv_topi (fun v_21 ev_21 => ?_)
  have ev_21 : v_21 = 1 := ev_21.trans (by decide)
  subst ev_21
  refine lv_aload_n hx hb dX6_text_73 rfl (lv_at hl 2 rfl) ?_
  refine va_get (D := G.1) (ci := 6) (v := .int 3) (C := RX6) (T := TX6) (N := 42) hx hb hts hiX6 hown hK hP 3 rfl rfl 27 (by decide) kf127 (fun _ h9 => h9) rfl dX6_text_74 ?_
  refine va_iast (D := G.1) hx hb hK hP hD hS 0 0 rfl rfl (i := 1) (x := 3) (gIn (by decide)) dX6_text_77 (fun H locs hP hD hS => ?_)
  have hP : va_P G.1 vwCl [(sr, .inl (G.2.1, 24, .inl (upd (upd (fun _ => 0) 0 0) 1 3))), (cd, .inl (G.2.1, 1200, .inl (upd (upd (upd (fun _ => 0) 0 0) 1 1) 2 17))), (he, .inl (G.2.1, 200, .inl (upd (fun _ => 0) 0 17))), (h0, .inr (6, [.int 0, .ref kd, .ref mo, .ref st, .int 0, .ref ro, .ref tp, .int 40, .ref cd, .ref sr, .int 0, .int 0, .int 0, .ref ir, .ref ih, .ref ss, .ref sq, .ref ce, .ref lw, .int 26, .int 21, .int 3, .int 1, .ref wo, .ref he, .int 0, .int 0, .int 3, .ref sk, .ref na, .ref kp, .int 0, .int 0, .int 0, .int 0, .ref gb, .ref go, .ref fa, .ref ga, .int 0, .int 0, .ref vo])), (tp, .inl (G.2.1, 160, .inl (gPf tB 40))), (wo, .inl (G.2.1, 96, .inl (gPf tW 96)))] H := hP
  have hD : va_D A [(sr, .inl (G.2.1, 24, .inl (upd (upd (fun _ => 0) 0 0) 1 3))), (cd, .inl (G.2.1, 1200, .inl (upd (upd (upd (fun _ => 0) 0 0) 1 1) 2 17))), (he, .inl (G.2.1, 200, .inl (upd (fun _ => 0) 0 17))), (h0, .inr (6, [.int 0, .ref kd, .ref mo, .ref st, .int 0, .ref ro, .ref tp, .int 40, .ref cd, .ref sr, .int 0, .int 0, .int 0, .ref ir, .ref ih, .ref ss, .ref sq, .ref ce, .ref lw, .int 26, .int 21, .int 3, .int 1, .ref wo, .ref he, .int 0, .int 0, .int 3, .ref sk, .ref na, .ref kp, .int 0, .int 0, .int 0, .int 0, .ref gb, .ref go, .ref fa, .ref ga, .int 0, .int 0, .ref vo])), (tp, .inl (G.2.1, 160, .inl (gPf tB 40))), (wo, .inl (G.2.1, 96, .inl (gPf tW 96)))] := hD
  refine lv_iload_n hx hb dX6_text_78 rfl (lv_at hl 0 rfl) ?_
  refine lv_if_eq (tgt := 93) hx hb dX6_text_79 (by decide) (fun c_22 => ?_) (fun c_22 => ?_)
  · exact absurd c_22 (by decide)
  refine lv_aload_n hx hb dX6_text_82 rfl (lv_at hl 2 rfl) ?_
  have hPc : va_P G.1 vwCl [(cd, .inl (G.2.1, 1200, .inl (upd (upd (upd (fun _ => 0) 0 0) 1 1) 2 17))), (he, .inl (G.2.1, 200, .inl (upd (fun _ => 0) 0 17))), (h0, .inr (6, [.int 0, .ref kd, .ref mo, .ref st, .int 0, .ref ro, .ref tp, .int 40, .ref cd, .ref sr, .int 0, .int 0, .int 0, .ref ir, .ref ih, .ref ss, .ref sq, .ref ce, .ref lw, .int 26, .int 21, .int 3, .int 1, .ref wo, .ref he, .int 0, .int 0, .int 3, .ref sk, .ref na, .ref kp, .int 0, .int 0, .int 0, .int 0, .ref gb, .ref go, .ref fa, .ref ga, .int 0, .int 0, .ref vo])), (tp, .inl (G.2.1, 160, .inl (gPf tB 40))), (wo, .inl (G.2.1, 96, .inl (gPf tW 96)))] H := hP.sub [1, 2, 3, 4, 5] rfl
  have hDc : va_D A [(cd, .inl (G.2.1, 1200, .inl (upd (upd (upd (fun _ => 0) 0 0) 1 1) 2 17))), (he, .inl (G.2.1, 200, .inl (upd (fun _ => 0) 0 17))), (h0, .inr (6, [.int 0, .ref kd, .ref mo, .ref st, .int 0, .ref ro, .ref tp, .int 40, .ref cd, .ref sr, .int 0, .int 0, .int 0, .ref ir, .ref ih, .ref ss, .ref sq, .ref ce, .ref lw, .int 26, .int 21, .int 3, .int 1, .ref wo, .ref he, .int 0, .int 0, .int 3, .ref sk, .ref na, .ref kp, .int 0, .int 0, .int 0, .int 0, .ref gb, .ref go, .ref fa, .ref ga, .int 0, .int 0, .ref vo])), (tp, .inl (G.2.1, 160, .inl (gPf tB 40))), (wo, .inl (G.2.1, 96, .inl (gPf tW 96)))] := hD.sub [1, 2, 3, 4, 5] (by decide) rfl
  have hFc := va_free (wc := [(cd, .inl (G.2.1, 1200, .inl (upd (upd (upd (fun _ => 0) 0 0) 1 1) 2 17))), (he, .inl (G.2.1, 200, .inl (upd (fun _ => 0) 0 17))), (h0, .inr (6, [.int 0, .ref kd, .ref mo, .ref st, .int 0, .ref ro, .ref tp, .int 40, .ref cd, .ref sr, .int 0, .int 0, .int 0, .ref ir, .ref ih, .ref ss, .ref sq, .ref ce, .ref lw, .int 26, .int 21, .int 3, .int 1, .ref wo, .ref he, .int 0, .int 0, .int 3, .ref sk, .ref na, .ref kp, .int 0, .int 0, .int 0, .int 0, .ref gb, .ref go, .ref fa, .ref ga, .int 0, .int 0, .ref vo])), (tp, .inl (G.2.1, 160, .inl (gPf tB 40))), (wo, .inl (G.2.1, 96, .inl (gPf tW 96)))]) hD hS hA [1, 2, 3, 4, 5] rfl
  refine va_calli (va_runV (As := []) (rest := []) ⟨hx, hb, hml, hown, hts⟩ (c_X6_eRead_z41 l G h0 cd he kd mo st ro tp sr ir ih ss sq ce lw wo sk na kp gb go fa ga vo H.size) (cwV 0 hts gX6_text_X6_eRead rfl rfl rfl (by decide +kernel) ⟨Nat.le_of_ble_eq_true rfl, Nat.le_of_ble_eq_true rfl⟩) ⟨gPre_blind, va_recv hK hPc (ci := 6) (q0 := 2) rfl rfl, fun U hU hW => gPre_of hU hW hK hPc hDc⟩ rfl rfl hl.1 rfl (lv_room (Nat.le_of_ble_eq_true rfl)) dX6_text_83 ⟨Nat.le_of_ble_eq_true rfl, Nat.le_of_ble_eq_true rfl⟩) hS (fun q _ h => hFc q h) hFc (fun r_23 u t H locs ht hvm w_24 hB hz1 hk1 hS => ?_)
  obtain ⟨hP1, hK1, hD1⟩ := hB
  rw [ht] at hP1
  have hP1 : va_P G.1 vwCl [(cd, .inl (G.2.1, 1200, .inl (upd (upd (upd (upd (fun _ => 0) 0 0) 1 1) 2 17) 3 100001))), (he, .inl (G.2.1, 200, .inl (upd (fun _ => 0) 0 17))), (h0, .inr (6, [.int 0, .ref kd, .ref mo, .ref st, .int 0, .ref ro, .ref tp, .int 40, .ref cd, .ref sr, .int 0, .int 0, .int 0, .ref ir, .ref ih, .ref ss, .ref sq, .ref ce, .ref lw, .int 30, .int 29, .int 59, .int 0, .ref wo, .ref he, .int 0, .int 0, .int 4, .ref sk, .ref na, .ref kp, .int 0, .int 0, .int 0, .int 0, .ref gb, .ref go, .ref fa, .ref ga, .int 0, .int 0, .ref vo])), (tp, .inl (G.2.1, 160, .inl (gPf tB 40))), (wo, .inl (G.2.1, 96, .inl (gPf tW 96)))] H := hP1
  have hD1 : va_D (va_A [(cd, .inl (G.2.1, 1200, .inl (upd (upd (upd (fun _ => 0) 0 0) 1 1) 2 17))), (he, .inl (G.2.1, 200, .inl (upd (fun _ => 0) 0 17))), (h0, .inr (6, [.int 0, .ref kd, .ref mo, .ref st, .int 0, .ref ro, .ref tp, .int 40, .ref cd, .ref sr, .int 0, .int 0, .int 0, .ref ir, .ref ih, .ref ss, .ref sq, .ref ce, .ref lw, .int 26, .int 21, .int 3, .int 1, .ref wo, .ref he, .int 0, .int 0, .int 3, .ref sk, .ref na, .ref kp, .int 0, .int 0, .int 0, .int 0, .ref gb, .ref go, .ref fa, .ref ga, .int 0, .int 0, .ref vo])), (tp, .inl (G.2.1, 160, .inl (gPf tB 40))), (wo, .inl (G.2.1, 96, .inl (gPf tW 96)))] _) [(cd, .inl (G.2.1, 1200, .inl (upd (upd (upd (upd (fun _ => 0) 0 0) 1 1) 2 17) 3 100001))), (he, .inl (G.2.1, 200, .inl (upd (fun _ => 0) 0 17))), (h0, .inr (6, [.int 0, .ref kd, .ref mo, .ref st, .int 0, .ref ro, .ref tp, .int 40, .ref cd, .ref sr, .int 0, .int 0, .int 0, .ref ir, .ref ih, .ref ss, .ref sq, .ref ce, .ref lw, .int 30, .int 29, .int 59, .int 0, .ref wo, .ref he, .int 0, .int 0, .int 4, .ref sk, .ref na, .ref kp, .int 0, .int 0, .int 0, .int 0, .ref gb, .ref go, .ref fa, .ref ga, .int 0, .int 0, .ref vo])), (tp, .inl (G.2.1, 160, .inl (gPf tB 40))), (wo, .inl (G.2.1, 96, .inl (gPf tW 96)))] := hD1
  have w_24 : r_23 = 1 := w_24
  obtain ⟨hP, hD⟩ := va_join (wr := [(sr, .inl (G.2.1, 24, .inl (upd (upd (fun _ => 0) 0 0) 1 3)))]) (w1 := [(cd, .inl (G.2.1, 1200, .inl (upd (upd (upd (upd (fun _ => 0) 0 0) 1 1) 2 17) 3 100001))), (he, .inl (G.2.1, 200, .inl (upd (fun _ => 0) 0 17))), (h0, .inr (6, [.int 0, .ref kd, .ref mo, .ref st, .int 0, .ref ro, .ref tp, .int 40, .ref cd, .ref sr, .int 0, .int 0, .int 0, .ref ir, .ref ih, .ref ss, .ref sq, .ref ce, .ref lw, .int 30, .int 29, .int 59, .int 0, .ref wo, .ref he, .int 0, .int 0, .int 4, .ref sk, .ref na, .ref kp, .int 0, .int 0, .int 0, .int 0, .ref gb, .ref go, .ref fa, .ref ga, .int 0, .int 0, .ref vo])), (tp, .inl (G.2.1, 160, .inl (gPf tB 40))), (wo, .inl (G.2.1, 96, .inl (gPf tW 96)))]) hP hD [1, 2, 3, 4, 5] [0] rfl rfl (by decide) (by decide) hk1 hFc hP1 hD1
  have hP : va_P G.1 vwCl [(sr, .inl (G.2.1, 24, .inl (upd (upd (fun _ => 0) 0 0) 1 3))), (cd, .inl (G.2.1, 1200, .inl (upd (upd (upd (upd (fun _ => 0) 0 0) 1 1) 2 17) 3 100001))), (he, .inl (G.2.1, 200, .inl (upd (fun _ => 0) 0 17))), (h0, .inr (6, [.int 0, .ref kd, .ref mo, .ref st, .int 0, .ref ro, .ref tp, .int 40, .ref cd, .ref sr, .int 0, .int 0, .int 0, .ref ir, .ref ih, .ref ss, .ref sq, .ref ce, .ref lw, .int 30, .int 29, .int 59, .int 0, .ref wo, .ref he, .int 0, .int 0, .int 4, .ref sk, .ref na, .ref kp, .int 0, .int 0, .int 0, .int 0, .ref gb, .ref go, .ref fa, .ref ga, .int 0, .int 0, .ref vo])), (tp, .inl (G.2.1, 160, .inl (gPf tB 40))), (wo, .inl (G.2.1, 96, .inl (gPf tW 96)))] H := hP
  have hD : va_D A [(sr, .inl (G.2.1, 24, .inl (upd (upd (fun _ => 0) 0 0) 1 3))), (cd, .inl (G.2.1, 1200, .inl (upd (upd (upd (upd (fun _ => 0) 0 0) 1 1) 2 17) 3 100001))), (he, .inl (G.2.1, 200, .inl (upd (fun _ => 0) 0 17))), (h0, .inr (6, [.int 0, .ref kd, .ref mo, .ref st, .int 0, .ref ro, .ref tp, .int 40, .ref cd, .ref sr, .int 0, .int 0, .int 0, .ref ir, .ref ih, .ref ss, .ref sq, .ref ce, .ref lw, .int 30, .int 29, .int 59, .int 0, .ref wo, .ref he, .int 0, .int 0, .int 4, .ref sk, .ref na, .ref kp, .int 0, .int 0, .int 0, .int 0, .ref gb, .ref go, .ref fa, .ref ga, .int 0, .int 0, .ref vo])), (tp, .inl (G.2.1, 160, .inl (gPf tB 40))), (wo, .inl (G.2.1, 96, .inl (gPf tW 96)))] := hD
  have w_24 : r_23 = 1 := w_24
  subst w_24
  refine lv_if_eq (tgt := 93) hx hb dX6_text_86 (by decide) (fun c_25 => ?_) (fun c_25 => ?_)
  · exact absurd c_25 (by decide)
  refine lv_iconst (v := 1) hx hb dX6_text_89 (by decide) ?_
  refine lv_goto (tgt := 94) hx hb dX6_text_90 (by decide) ?_
  refine lv_istore_n (lv' := [(1, .int 1), (2, .int 1), (0, .ref h0)]) hx hb dX6_text_94 rfl hl (by decide) rfl (fun ls hl => ?_)
  refine lv_iinc (v := 2) (lv' := [(2, .int 2), (1, .int 1), (0, .ref h0)]) hx hb dX6_text_95 hl (k := 1) rfl (by decide) (by decide) rfl (fun ls hl => ?_)
  refine lv_goto (tgt := 26) hx hb dX6_text_98 (by decide) ?_
  refine lv_iload_n hx hb dX6_text_26 rfl (lv_at hl 0 rfl) ?_
  refine lv_iconst (v := 3) hx hb dX6_text_27 (by decide) ?_
  refine lv_icmp_ge (tgt := 101) hx hb dX6_text_28 (by decide) (fun c_26 => ?_) (fun c_26 => ?_)
  · exact absurd c_26 (by decide)
  refine lv_iload_n hx hb dX6_text_31 rfl (lv_at hl 1 rfl) ?_
  refine lv_if_eq (tgt := 101) hx hb dX6_text_32 (by decide) (fun c_27 => ?_) (fun c_27 => ?_)
  · exact absurd c_27 (by decide)
  refine lv_aload_n hx hb dX6_text_35 rfl (lv_at hl 2 rfl) ?_
  have hPc : va_P G.1 vwCl [(h0, .inr (6, [.int 0, .ref kd, .ref mo, .ref st, .int 0, .ref ro, .ref tp, .int 40, .ref cd, .ref sr, .int 0, .int 0, .int 0, .ref ir, .ref ih, .ref ss, .ref sq, .ref ce, .ref lw, .int 30, .int 29, .int 59, .int 0, .ref wo, .ref he, .int 0, .int 0, .int 4, .ref sk, .ref na, .ref kp, .int 0, .int 0, .int 0, .int 0, .ref gb, .ref go, .ref fa, .ref ga, .int 0, .int 0, .ref vo])), (tp, .inl (G.2.1, 160, .inl (gPf tB 40))), (wo, .inl (G.2.1, 96, .inl (gPf tW 96)))] H := hP.sub [3, 4, 5] rfl
  have hDc : va_D A [(h0, .inr (6, [.int 0, .ref kd, .ref mo, .ref st, .int 0, .ref ro, .ref tp, .int 40, .ref cd, .ref sr, .int 0, .int 0, .int 0, .ref ir, .ref ih, .ref ss, .ref sq, .ref ce, .ref lw, .int 30, .int 29, .int 59, .int 0, .ref wo, .ref he, .int 0, .int 0, .int 4, .ref sk, .ref na, .ref kp, .int 0, .int 0, .int 0, .int 0, .ref gb, .ref go, .ref fa, .ref ga, .int 0, .int 0, .ref vo])), (tp, .inl (G.2.1, 160, .inl (gPf tB 40))), (wo, .inl (G.2.1, 96, .inl (gPf tW 96)))] := hD.sub [3, 4, 5] (by decide) rfl
  have hFc := va_free (wc := [(h0, .inr (6, [.int 0, .ref kd, .ref mo, .ref st, .int 0, .ref ro, .ref tp, .int 40, .ref cd, .ref sr, .int 0, .int 0, .int 0, .ref ir, .ref ih, .ref ss, .ref sq, .ref ce, .ref lw, .int 30, .int 29, .int 59, .int 0, .ref wo, .ref he, .int 0, .int 0, .int 4, .ref sk, .ref na, .ref kp, .int 0, .int 0, .int 0, .int 0, .ref gb, .ref go, .ref fa, .ref ga, .int 0, .int 0, .ref vo])), (tp, .inl (G.2.1, 160, .inl (gPf tB 40))), (wo, .inl (G.2.1, 96, .inl (gPf tW 96)))]) hD hS hA [3, 4, 5] rfl
  refine va_callv (va_runV (As := []) (rest := []) ⟨hx, hb, hml, hown, hts⟩ (c_X6_next_z50 l G h0 kd mo st ro tp cd sr ir ih ss sq ce lw wo he sk na kp gb go fa ga vo H.size) (cwV 0 hts gX6_text_X6_next rfl rfl rfl (by decide +kernel) ⟨Nat.le_of_ble_eq_true rfl, Nat.le_of_ble_eq_true rfl⟩) ⟨gPre_blind, va_recv hK hPc (ci := 6) (q0 := 0) rfl rfl, fun U hU hW => gPre_of hU hW hK hPc hDc⟩ rfl rfl hl.1 rfl (lv_room (Nat.le_of_ble_eq_true rfl)) dX6_text_36 ⟨Nat.le_of_ble_eq_true rfl, Nat.le_of_ble_eq_true rfl⟩) hS (fun q _ h => hFc q h) hFc (fun u t H locs ht hvm w_29 hB hz1 hk1 hS => ?_)
  obtain ⟨hP1, hK1, hD1⟩ := hB
  rw [ht] at hP1
  have hP1 : va_P G.1 vwCl [(h0, .inr (6, [.int 0, .ref kd, .ref mo, .ref st, .int 0, .ref ro, .ref tp, .int 40, .ref cd, .ref sr, .int 0, .int 0, .int 0, .ref ir, .ref ih, .ref ss, .ref sq, .ref ce, .ref lw, .int 35, .int 31, .int 3, .int 2, .ref wo, .ref he, .int 0, .int 0, .int 4, .ref sk, .ref na, .ref kp, .int 0, .int 0, .int 0, .int 0, .ref gb, .ref go, .ref fa, .ref ga, .int 0, .int 0, .ref vo])), (tp, .inl (G.2.1, 160, .inl (gPf tB 40))), (wo, .inl (G.2.1, 96, .inl (gPf tW 96)))] H := hP1
  have hD1 : va_D (va_A [(h0, .inr (6, [.int 0, .ref kd, .ref mo, .ref st, .int 0, .ref ro, .ref tp, .int 40, .ref cd, .ref sr, .int 0, .int 0, .int 0, .ref ir, .ref ih, .ref ss, .ref sq, .ref ce, .ref lw, .int 30, .int 29, .int 59, .int 0, .ref wo, .ref he, .int 0, .int 0, .int 4, .ref sk, .ref na, .ref kp, .int 0, .int 0, .int 0, .int 0, .ref gb, .ref go, .ref fa, .ref ga, .int 0, .int 0, .ref vo])), (tp, .inl (G.2.1, 160, .inl (gPf tB 40))), (wo, .inl (G.2.1, 96, .inl (gPf tW 96)))] _) [(h0, .inr (6, [.int 0, .ref kd, .ref mo, .ref st, .int 0, .ref ro, .ref tp, .int 40, .ref cd, .ref sr, .int 0, .int 0, .int 0, .ref ir, .ref ih, .ref ss, .ref sq, .ref ce, .ref lw, .int 35, .int 31, .int 3, .int 2, .ref wo, .ref he, .int 0, .int 0, .int 4, .ref sk, .ref na, .ref kp, .int 0, .int 0, .int 0, .int 0, .ref gb, .ref go, .ref fa, .ref ga, .int 0, .int 0, .ref vo])), (tp, .inl (G.2.1, 160, .inl (gPf tB 40))), (wo, .inl (G.2.1, 96, .inl (gPf tW 96)))] := hD1
  obtain ⟨hP, hD⟩ := va_join (wr := [(sr, .inl (G.2.1, 24, .inl (upd (upd (fun _ => 0) 0 0) 1 3))), (cd, .inl (G.2.1, 1200, .inl (upd (upd (upd (upd (fun _ => 0) 0 0) 1 1) 2 17) 3 100001))), (he, .inl (G.2.1, 200, .inl (upd (fun _ => 0) 0 17)))]) (w1 := [(h0, .inr (6, [.int 0, .ref kd, .ref mo, .ref st, .int 0, .ref ro, .ref tp, .int 40, .ref cd, .ref sr, .int 0, .int 0, .int 0, .ref ir, .ref ih, .ref ss, .ref sq, .ref ce, .ref lw, .int 35, .int 31, .int 3, .int 2, .ref wo, .ref he, .int 0, .int 0, .int 4, .ref sk, .ref na, .ref kp, .int 0, .int 0, .int 0, .int 0, .ref gb, .ref go, .ref fa, .ref ga, .int 0, .int 0, .ref vo])), (tp, .inl (G.2.1, 160, .inl (gPf tB 40))), (wo, .inl (G.2.1, 96, .inl (gPf tW 96)))]) hP hD [3, 4, 5] [0, 1, 2] rfl rfl (by decide) (by decide) hk1 hFc hP1 hD1
  have hP : va_P G.1 vwCl [(sr, .inl (G.2.1, 24, .inl (upd (upd (fun _ => 0) 0 0) 1 3))), (cd, .inl (G.2.1, 1200, .inl (upd (upd (upd (upd (fun _ => 0) 0 0) 1 1) 2 17) 3 100001))), (he, .inl (G.2.1, 200, .inl (upd (fun _ => 0) 0 17))), (h0, .inr (6, [.int 0, .ref kd, .ref mo, .ref st, .int 0, .ref ro, .ref tp, .int 40, .ref cd, .ref sr, .int 0, .int 0, .int 0, .ref ir, .ref ih, .ref ss, .ref sq, .ref ce, .ref lw, .int 35, .int 31, .int 3, .int 2, .ref wo, .ref he, .int 0, .int 0, .int 4, .ref sk, .ref na, .ref kp, .int 0, .int 0, .int 0, .int 0, .ref gb, .ref go, .ref fa, .ref ga, .int 0, .int 0, .ref vo])), (tp, .inl (G.2.1, 160, .inl (gPf tB 40))), (wo, .inl (G.2.1, 96, .inl (gPf tW 96)))] H := hP
  have hD : va_D A [(sr, .inl (G.2.1, 24, .inl (upd (upd (fun _ => 0) 0 0) 1 3))), (cd, .inl (G.2.1, 1200, .inl (upd (upd (upd (upd (fun _ => 0) 0 0) 1 1) 2 17) 3 100001))), (he, .inl (G.2.1, 200, .inl (upd (fun _ => 0) 0 17))), (h0, .inr (6, [.int 0, .ref kd, .ref mo, .ref st, .int 0, .ref ro, .ref tp, .int 40, .ref cd, .ref sr, .int 0, .int 0, .int 0, .ref ir, .ref ih, .ref ss, .ref sq, .ref ce, .ref lw, .int 35, .int 31, .int 3, .int 2, .ref wo, .ref he, .int 0, .int 0, .int 4, .ref sk, .ref na, .ref kp, .int 0, .int 0, .int 0, .int 0, .ref gb, .ref go, .ref fa, .ref ga, .int 0, .int 0, .ref vo])), (tp, .inl (G.2.1, 160, .inl (gPf tB 40))), (wo, .inl (G.2.1, 96, .inl (gPf tW 96)))] := hD
  refine lv_aload_n hx hb dX6_text_39 rfl (lv_at hl 2 rfl) ?_
  refine va_get (D := G.1) (ci := 6) (v := .int 3) (C := RX6) (T := TX6) (N := 42) hx hb hts hiX6 hown hK hP 3 rfl rfl 21 (by decide) kf117 (fun _ h9 => h9) rfl dX6_text_40 ?_
  refine lv_iconst (v := 3) hx hb dX6_text_43 (by decide) ?_
  refine lv_icmp_ne (tgt := 59) hx hb dX6_text_44 (by decide) (fun c_30 => ?_) (fun c_30 => ?_)
  · exact absurd (by decide) c_30
  refine lv_aload_n hx hb dX6_text_47 rfl (lv_at hl 2 rfl) ?_
  refine va_get (D := G.1) (ci := 6) (v := .int 2) (C := RX6) (T := TX6) (N := 42) hx hb hts hiX6 hown hK hP 3 rfl rfl 22 (by decide) kf120 (fun _ h9 => h9) rfl dX6_text_48 ?_
  refine lv_iload_n hx hb dX6_text_51 rfl (lv_at hl 0 rfl) ?_
  refine lv_icmp_ne (tgt := 59) hx hb dX6_text_52 (by decide) (fun c_31 => ?_) (fun c_31 => ?_)
  · exact absurd (by decide) c_31
  refine lv_iconst (v := 1) hx hb dX6_text_55 (by decide) ?_
  refine lv_goto (tgt := 60) hx hb dX6_text_56 (by decide) ?_
  refine lv_istore_n (lv' := [(1, .int 1), (2, .int 2), (0, .ref h0)]) hx hb dX6_text_60 rfl hl (by decide) rfl (fun ls hl => ?_)
  refine lv_aload_n hx hb dX6_text_61 rfl (lv_at hl 2 rfl) ?_
  refine va_get (D := G.1) (ci := 6) (v := .ref sr) (C := RX6) (T := TX6) (N := 42) hx hb hts hiX6 hown hK hP 3 rfl rfl 9 (by decide) kf28 (fun _ h9 => h9) rfl dX6_text_62 ?_
  refine lv_iconst (v := 4) hx hb dX6_text_65 (by decide) ?_
  refine lv_aload_n hx hb dX6_text_66 rfl (lv_at hl 2 rfl) ?_
  refine va_get (D := G.1) (ci := 6) (v := .int 0) (C := RX6) (T := TX6) (N := 42) hx hb hts hiX6 hown hK hP 3 rfl rfl 10 (by decide) kf98 (fun _ h9 => h9) rfl dX6_text_67 ?_
  refine lv_imul hx hb dX6_text_70 ?_
  refine lv_topi (fun v_32 ev_32 => ?_)
  have ev_32 : v_32 = 0 := ev_32.trans (by decide)
  subst ev_32
  refine lv_iload_n hx hb dX6_text_71 rfl (lv_at hl 1 rfl) ?_
  refine lv_iadd hx hb dX6_text_72 ?_
  refine lv_topi (fun v_33 ev_33 => ?_)
  have ev_33 : v_33 = 2 := ev_33.trans (by decide)
  subst ev_33
  refine lv_aload_n hx hb dX6_text_73 rfl (lv_at hl 2 rfl) ?_
  refine va_get (D := G.1) (ci := 6) (v := .int 4) (C := RX6) (T := TX6) (N := 42) hx hb hts hiX6 hown hK hP 3 rfl rfl 27 (by decide) kf127 (fun _ h9 => h9) rfl dX6_text_74 ?_
  refine va_iast (D := G.1) hx hb hK hP hD hS 0 0 rfl rfl (i := 2) (x := 4) (gIn (by decide)) dX6_text_77 (fun H locs hP hD hS => ?_)
  have hP : va_P G.1 vwCl [(sr, .inl (G.2.1, 24, .inl (upd (upd (upd (fun _ => 0) 0 0) 1 3) 2 4))), (cd, .inl (G.2.1, 1200, .inl (upd (upd (upd (upd (fun _ => 0) 0 0) 1 1) 2 17) 3 100001))), (he, .inl (G.2.1, 200, .inl (upd (fun _ => 0) 0 17))), (h0, .inr (6, [.int 0, .ref kd, .ref mo, .ref st, .int 0, .ref ro, .ref tp, .int 40, .ref cd, .ref sr, .int 0, .int 0, .int 0, .ref ir, .ref ih, .ref ss, .ref sq, .ref ce, .ref lw, .int 35, .int 31, .int 3, .int 2, .ref wo, .ref he, .int 0, .int 0, .int 4, .ref sk, .ref na, .ref kp, .int 0, .int 0, .int 0, .int 0, .ref gb, .ref go, .ref fa, .ref ga, .int 0, .int 0, .ref vo])), (tp, .inl (G.2.1, 160, .inl (gPf tB 40))), (wo, .inl (G.2.1, 96, .inl (gPf tW 96)))] H := hP
  have hD : va_D A [(sr, .inl (G.2.1, 24, .inl (upd (upd (upd (fun _ => 0) 0 0) 1 3) 2 4))), (cd, .inl (G.2.1, 1200, .inl (upd (upd (upd (upd (fun _ => 0) 0 0) 1 1) 2 17) 3 100001))), (he, .inl (G.2.1, 200, .inl (upd (fun _ => 0) 0 17))), (h0, .inr (6, [.int 0, .ref kd, .ref mo, .ref st, .int 0, .ref ro, .ref tp, .int 40, .ref cd, .ref sr, .int 0, .int 0, .int 0, .ref ir, .ref ih, .ref ss, .ref sq, .ref ce, .ref lw, .int 35, .int 31, .int 3, .int 2, .ref wo, .ref he, .int 0, .int 0, .int 4, .ref sk, .ref na, .ref kp, .int 0, .int 0, .int 0, .int 0, .ref gb, .ref go, .ref fa, .ref ga, .int 0, .int 0, .ref vo])), (tp, .inl (G.2.1, 160, .inl (gPf tB 40))), (wo, .inl (G.2.1, 96, .inl (gPf tW 96)))] := hD
  refine lv_iload_n hx hb dX6_text_78 rfl (lv_at hl 0 rfl) ?_
  refine lv_if_eq (tgt := 93) hx hb dX6_text_79 (by decide) (fun c_34 => ?_) (fun c_34 => ?_)
  · exact absurd c_34 (by decide)
  refine lv_aload_n hx hb dX6_text_82 rfl (lv_at hl 2 rfl) ?_
  have hPc : va_P G.1 vwCl [(cd, .inl (G.2.1, 1200, .inl (upd (upd (upd (upd (fun _ => 0) 0 0) 1 1) 2 17) 3 100001))), (he, .inl (G.2.1, 200, .inl (upd (fun _ => 0) 0 17))), (h0, .inr (6, [.int 0, .ref kd, .ref mo, .ref st, .int 0, .ref ro, .ref tp, .int 40, .ref cd, .ref sr, .int 0, .int 0, .int 0, .ref ir, .ref ih, .ref ss, .ref sq, .ref ce, .ref lw, .int 35, .int 31, .int 3, .int 2, .ref wo, .ref he, .int 0, .int 0, .int 4, .ref sk, .ref na, .ref kp, .int 0, .int 0, .int 0, .int 0, .ref gb, .ref go, .ref fa, .ref ga, .int 0, .int 0, .ref vo])), (tp, .inl (G.2.1, 160, .inl (gPf tB 40))), (wo, .inl (G.2.1, 96, .inl (gPf tW 96)))] H := hP.sub [1, 2, 3, 4, 5] rfl
  have hDc : va_D A [(cd, .inl (G.2.1, 1200, .inl (upd (upd (upd (upd (fun _ => 0) 0 0) 1 1) 2 17) 3 100001))), (he, .inl (G.2.1, 200, .inl (upd (fun _ => 0) 0 17))), (h0, .inr (6, [.int 0, .ref kd, .ref mo, .ref st, .int 0, .ref ro, .ref tp, .int 40, .ref cd, .ref sr, .int 0, .int 0, .int 0, .ref ir, .ref ih, .ref ss, .ref sq, .ref ce, .ref lw, .int 35, .int 31, .int 3, .int 2, .ref wo, .ref he, .int 0, .int 0, .int 4, .ref sk, .ref na, .ref kp, .int 0, .int 0, .int 0, .int 0, .ref gb, .ref go, .ref fa, .ref ga, .int 0, .int 0, .ref vo])), (tp, .inl (G.2.1, 160, .inl (gPf tB 40))), (wo, .inl (G.2.1, 96, .inl (gPf tW 96)))] := hD.sub [1, 2, 3, 4, 5] (by decide) rfl
  have hFc := va_free (wc := [(cd, .inl (G.2.1, 1200, .inl (upd (upd (upd (upd (fun _ => 0) 0 0) 1 1) 2 17) 3 100001))), (he, .inl (G.2.1, 200, .inl (upd (fun _ => 0) 0 17))), (h0, .inr (6, [.int 0, .ref kd, .ref mo, .ref st, .int 0, .ref ro, .ref tp, .int 40, .ref cd, .ref sr, .int 0, .int 0, .int 0, .ref ir, .ref ih, .ref ss, .ref sq, .ref ce, .ref lw, .int 35, .int 31, .int 3, .int 2, .ref wo, .ref he, .int 0, .int 0, .int 4, .ref sk, .ref na, .ref kp, .int 0, .int 0, .int 0, .int 0, .ref gb, .ref go, .ref fa, .ref ga, .int 0, .int 0, .ref vo])), (tp, .inl (G.2.1, 160, .inl (gPf tB 40))), (wo, .inl (G.2.1, 96, .inl (gPf tW 96)))]) hD hS hA [1, 2, 3, 4, 5] rfl
  refine va_calli (va_runV (As := []) (rest := []) ⟨hx, hb, hml, hown, hts⟩ (c_X6_eRead_z53 l G h0 cd he kd mo st ro tp sr ir ih ss sq ce lw wo sk na kp gb go fa ga vo H.size) (cwV 0 hts gX6_text_X6_eRead rfl rfl rfl (by decide +kernel) ⟨Nat.le_of_ble_eq_true rfl, Nat.le_of_ble_eq_true rfl⟩) ⟨gPre_blind, va_recv hK hPc (ci := 6) (q0 := 2) rfl rfl, fun U hU hW => gPre_of hU hW hK hPc hDc⟩ rfl rfl hl.1 rfl (lv_room (Nat.le_of_ble_eq_true rfl)) dX6_text_83 ⟨Nat.le_of_ble_eq_true rfl, Nat.le_of_ble_eq_true rfl⟩) hS (fun q _ h => hFc q h) hFc (fun r_35 u t H locs ht hvm w_36 hB hz1 hk1 hS => ?_)
  obtain ⟨hP1, hK1, hD1⟩ := hB
  rw [ht] at hP1
  have hP1 : va_P G.1 vwCl [(cd, .inl (G.2.1, 1200, .inl (upd (upd (upd (upd (upd (fun _ => 0) 0 0) 1 1) 2 17) 3 100001) 4 100030))), (he, .inl (G.2.1, 200, .inl (upd (fun _ => 0) 0 17))), (h0, .inr (6, [.int 0, .ref kd, .ref mo, .ref st, .int 0, .ref ro, .ref tp, .int 40, .ref cd, .ref sr, .int 0, .int 0, .int 0, .ref ir, .ref ih, .ref ss, .ref sq, .ref ce, .ref lw, .int 40, .int 39, .int 59, .int 0, .ref wo, .ref he, .int 0, .int 0, .int 5, .ref sk, .ref na, .ref kp, .int 0, .int 0, .int 0, .int 0, .ref gb, .ref go, .ref fa, .ref ga, .int 0, .int 0, .ref vo])), (tp, .inl (G.2.1, 160, .inl (gPf tB 40))), (wo, .inl (G.2.1, 96, .inl (gPf tW 96)))] H := hP1
  have hD1 : va_D (va_A [(cd, .inl (G.2.1, 1200, .inl (upd (upd (upd (upd (fun _ => 0) 0 0) 1 1) 2 17) 3 100001))), (he, .inl (G.2.1, 200, .inl (upd (fun _ => 0) 0 17))), (h0, .inr (6, [.int 0, .ref kd, .ref mo, .ref st, .int 0, .ref ro, .ref tp, .int 40, .ref cd, .ref sr, .int 0, .int 0, .int 0, .ref ir, .ref ih, .ref ss, .ref sq, .ref ce, .ref lw, .int 35, .int 31, .int 3, .int 2, .ref wo, .ref he, .int 0, .int 0, .int 4, .ref sk, .ref na, .ref kp, .int 0, .int 0, .int 0, .int 0, .ref gb, .ref go, .ref fa, .ref ga, .int 0, .int 0, .ref vo])), (tp, .inl (G.2.1, 160, .inl (gPf tB 40))), (wo, .inl (G.2.1, 96, .inl (gPf tW 96)))] _) [(cd, .inl (G.2.1, 1200, .inl (upd (upd (upd (upd (upd (fun _ => 0) 0 0) 1 1) 2 17) 3 100001) 4 100030))), (he, .inl (G.2.1, 200, .inl (upd (fun _ => 0) 0 17))), (h0, .inr (6, [.int 0, .ref kd, .ref mo, .ref st, .int 0, .ref ro, .ref tp, .int 40, .ref cd, .ref sr, .int 0, .int 0, .int 0, .ref ir, .ref ih, .ref ss, .ref sq, .ref ce, .ref lw, .int 40, .int 39, .int 59, .int 0, .ref wo, .ref he, .int 0, .int 0, .int 5, .ref sk, .ref na, .ref kp, .int 0, .int 0, .int 0, .int 0, .ref gb, .ref go, .ref fa, .ref ga, .int 0, .int 0, .ref vo])), (tp, .inl (G.2.1, 160, .inl (gPf tB 40))), (wo, .inl (G.2.1, 96, .inl (gPf tW 96)))] := hD1
  have w_36 : r_35 = 1 := w_36
  obtain ⟨hP, hD⟩ := va_join (wr := [(sr, .inl (G.2.1, 24, .inl (upd (upd (upd (fun _ => 0) 0 0) 1 3) 2 4)))]) (w1 := [(cd, .inl (G.2.1, 1200, .inl (upd (upd (upd (upd (upd (fun _ => 0) 0 0) 1 1) 2 17) 3 100001) 4 100030))), (he, .inl (G.2.1, 200, .inl (upd (fun _ => 0) 0 17))), (h0, .inr (6, [.int 0, .ref kd, .ref mo, .ref st, .int 0, .ref ro, .ref tp, .int 40, .ref cd, .ref sr, .int 0, .int 0, .int 0, .ref ir, .ref ih, .ref ss, .ref sq, .ref ce, .ref lw, .int 40, .int 39, .int 59, .int 0, .ref wo, .ref he, .int 0, .int 0, .int 5, .ref sk, .ref na, .ref kp, .int 0, .int 0, .int 0, .int 0, .ref gb, .ref go, .ref fa, .ref ga, .int 0, .int 0, .ref vo])), (tp, .inl (G.2.1, 160, .inl (gPf tB 40))), (wo, .inl (G.2.1, 96, .inl (gPf tW 96)))]) hP hD [1, 2, 3, 4, 5] [0] rfl rfl (by decide) (by decide) hk1 hFc hP1 hD1
  have hP : va_P G.1 vwCl [(sr, .inl (G.2.1, 24, .inl (upd (upd (upd (fun _ => 0) 0 0) 1 3) 2 4))), (cd, .inl (G.2.1, 1200, .inl (upd (upd (upd (upd (upd (fun _ => 0) 0 0) 1 1) 2 17) 3 100001) 4 100030))), (he, .inl (G.2.1, 200, .inl (upd (fun _ => 0) 0 17))), (h0, .inr (6, [.int 0, .ref kd, .ref mo, .ref st, .int 0, .ref ro, .ref tp, .int 40, .ref cd, .ref sr, .int 0, .int 0, .int 0, .ref ir, .ref ih, .ref ss, .ref sq, .ref ce, .ref lw, .int 40, .int 39, .int 59, .int 0, .ref wo, .ref he, .int 0, .int 0, .int 5, .ref sk, .ref na, .ref kp, .int 0, .int 0, .int 0, .int 0, .ref gb, .ref go, .ref fa, .ref ga, .int 0, .int 0, .ref vo])), (tp, .inl (G.2.1, 160, .inl (gPf tB 40))), (wo, .inl (G.2.1, 96, .inl (gPf tW 96)))] H := hP
  have hD : va_D A [(sr, .inl (G.2.1, 24, .inl (upd (upd (upd (fun _ => 0) 0 0) 1 3) 2 4))), (cd, .inl (G.2.1, 1200, .inl (upd (upd (upd (upd (upd (fun _ => 0) 0 0) 1 1) 2 17) 3 100001) 4 100030))), (he, .inl (G.2.1, 200, .inl (upd (fun _ => 0) 0 17))), (h0, .inr (6, [.int 0, .ref kd, .ref mo, .ref st, .int 0, .ref ro, .ref tp, .int 40, .ref cd, .ref sr, .int 0, .int 0, .int 0, .ref ir, .ref ih, .ref ss, .ref sq, .ref ce, .ref lw, .int 40, .int 39, .int 59, .int 0, .ref wo, .ref he, .int 0, .int 0, .int 5, .ref sk, .ref na, .ref kp, .int 0, .int 0, .int 0, .int 0, .ref gb, .ref go, .ref fa, .ref ga, .int 0, .int 0, .ref vo])), (tp, .inl (G.2.1, 160, .inl (gPf tB 40))), (wo, .inl (G.2.1, 96, .inl (gPf tW 96)))] := hD
  have w_36 : r_35 = 1 := w_36
  subst w_36
  refine lv_if_eq (tgt := 93) hx hb dX6_text_86 (by decide) (fun c_37 => ?_) (fun c_37 => ?_)
  · exact absurd c_37 (by decide)
  refine lv_iconst (v := 1) hx hb dX6_text_89 (by decide) ?_
  refine lv_goto (tgt := 94) hx hb dX6_text_90 (by decide) ?_
  refine lv_istore_n (lv' := [(1, .int 1), (2, .int 2), (0, .ref h0)]) hx hb dX6_text_94 rfl hl (by decide) rfl (fun ls hl => ?_)
  refine lv_iinc (v := 3) (lv' := [(2, .int 3), (1, .int 1), (0, .ref h0)]) hx hb dX6_text_95 hl (k := 1) rfl (by decide) (by decide) rfl (fun ls hl => ?_)
  refine lv_goto (tgt := 26) hx hb dX6_text_98 (by decide) ?_
  refine lv_iload_n hx hb dX6_text_26 rfl (lv_at hl 0 rfl) ?_
  refine lv_iconst (v := 3) hx hb dX6_text_27 (by decide) ?_
  refine lv_icmp_ge (tgt := 101) hx hb dX6_text_28 (by decide) (fun c_38 => ?_) (fun c_38 => ?_)
  rotate_left
  · exact absurd (by decide) c_38
  refine lv_iload_n hx hb dX6_text_101 rfl (lv_at hl 1 rfl) ?_
  refine lv_if_eq (tgt := 122) hx hb dX6_text_102 (by decide) (fun c_39 => ?_) (fun c_39 => ?_)
  · exact absurd c_39 (by decide)
  refine lv_aload_n hx hb dX6_text_105 rfl (lv_at hl 2 rfl) ?_
  have hPc : va_P G.1 vwCl [(h0, .inr (6, [.int 0, .ref kd, .ref mo, .ref st, .int 0, .ref ro, .ref tp, .int 40, .ref cd, .ref sr, .int 0, .int 0, .int 0, .ref ir, .ref ih, .ref ss, .ref sq, .ref ce, .ref lw, .int 40, .int 39, .int 59, .int 0, .ref wo, .ref he, .int 0, .int 0, .int 5, .ref sk, .ref na, .ref kp, .int 0, .int 0, .int 0, .int 0, .ref gb, .ref go, .ref fa, .ref ga, .int 0, .int 0, .ref vo])), (tp, .inl (G.2.1, 160, .inl (gPf tB 40))), (wo, .inl (G.2.1, 96, .inl (gPf tW 96)))] H := hP.sub [3, 4, 5] rfl
  have hDc : va_D A [(h0, .inr (6, [.int 0, .ref kd, .ref mo, .ref st, .int 0, .ref ro, .ref tp, .int 40, .ref cd, .ref sr, .int 0, .int 0, .int 0, .ref ir, .ref ih, .ref ss, .ref sq, .ref ce, .ref lw, .int 40, .int 39, .int 59, .int 0, .ref wo, .ref he, .int 0, .int 0, .int 5, .ref sk, .ref na, .ref kp, .int 0, .int 0, .int 0, .int 0, .ref gb, .ref go, .ref fa, .ref ga, .int 0, .int 0, .ref vo])), (tp, .inl (G.2.1, 160, .inl (gPf tB 40))), (wo, .inl (G.2.1, 96, .inl (gPf tW 96)))] := hD.sub [3, 4, 5] (by decide) rfl
  have hFc := va_free (wc := [(h0, .inr (6, [.int 0, .ref kd, .ref mo, .ref st, .int 0, .ref ro, .ref tp, .int 40, .ref cd, .ref sr, .int 0, .int 0, .int 0, .ref ir, .ref ih, .ref ss, .ref sq, .ref ce, .ref lw, .int 40, .int 39, .int 59, .int 0, .ref wo, .ref he, .int 0, .int 0, .int 5, .ref sk, .ref na, .ref kp, .int 0, .int 0, .int 0, .int 0, .ref gb, .ref go, .ref fa, .ref ga, .int 0, .int 0, .ref vo])), (tp, .inl (G.2.1, 160, .inl (gPf tB 40))), (wo, .inl (G.2.1, 96, .inl (gPf tW 96)))]) hD hS hA [3, 4, 5] rfl
  refine va_callv (va_runV (As := []) (rest := []) ⟨hx, hb, hml, hown, hts⟩ (c_X6_next_z62 l G h0 kd mo st ro tp cd sr ir ih ss sq ce lw wo he sk na kp gb go fa ga vo H.size) (cwV 0 hts gX6_text_X6_next rfl rfl rfl (by decide +kernel) ⟨Nat.le_of_ble_eq_true rfl, Nat.le_of_ble_eq_true rfl⟩) ⟨gPre_blind, va_recv hK hPc (ci := 6) (q0 := 0) rfl rfl, fun U hU hW => gPre_of hU hW hK hPc hDc⟩ rfl rfl hl.1 rfl (lv_room (Nat.le_of_ble_eq_true rfl)) dX6_text_106 ⟨Nat.le_of_ble_eq_true rfl, Nat.le_of_ble_eq_true rfl⟩) hS (fun q _ h => hFc q h) hFc (fun u t H locs ht hvm w_41 hB hz1 hk1 hS => ?_)
  obtain ⟨hP1, hK1, hD1⟩ := hB
  rw [ht] at hP1
  have hP1 : va_P G.1 vwCl [(h0, .inr (6, [.int 0, .ref kd, .ref mo, .ref st, .int 0, .ref ro, .ref tp, .int 40, .ref cd, .ref sr, .int 0, .int 0, .int 0, .ref ir, .ref ih, .ref ss, .ref sq, .ref ce, .ref lw, .int 40, .int 40, .int 0, .int 0, .ref wo, .ref he, .int 0, .int 0, .int 5, .ref sk, .ref na, .ref kp, .int 0, .int 0, .int 0, .int 0, .ref gb, .ref go, .ref fa, .ref ga, .int 0, .int 0, .ref vo])), (tp, .inl (G.2.1, 160, .inl (gPf tB 40))), (wo, .inl (G.2.1, 96, .inl (gPf tW 96)))] H := hP1
  have hD1 : va_D (va_A [(h0, .inr (6, [.int 0, .ref kd, .ref mo, .ref st, .int 0, .ref ro, .ref tp, .int 40, .ref cd, .ref sr, .int 0, .int 0, .int 0, .ref ir, .ref ih, .ref ss, .ref sq, .ref ce, .ref lw, .int 40, .int 39, .int 59, .int 0, .ref wo, .ref he, .int 0, .int 0, .int 5, .ref sk, .ref na, .ref kp, .int 0, .int 0, .int 0, .int 0, .ref gb, .ref go, .ref fa, .ref ga, .int 0, .int 0, .ref vo])), (tp, .inl (G.2.1, 160, .inl (gPf tB 40))), (wo, .inl (G.2.1, 96, .inl (gPf tW 96)))] _) [(h0, .inr (6, [.int 0, .ref kd, .ref mo, .ref st, .int 0, .ref ro, .ref tp, .int 40, .ref cd, .ref sr, .int 0, .int 0, .int 0, .ref ir, .ref ih, .ref ss, .ref sq, .ref ce, .ref lw, .int 40, .int 40, .int 0, .int 0, .ref wo, .ref he, .int 0, .int 0, .int 5, .ref sk, .ref na, .ref kp, .int 0, .int 0, .int 0, .int 0, .ref gb, .ref go, .ref fa, .ref ga, .int 0, .int 0, .ref vo])), (tp, .inl (G.2.1, 160, .inl (gPf tB 40))), (wo, .inl (G.2.1, 96, .inl (gPf tW 96)))] := hD1
  obtain ⟨hP, hD⟩ := va_join (wr := [(sr, .inl (G.2.1, 24, .inl (upd (upd (upd (fun _ => 0) 0 0) 1 3) 2 4))), (cd, .inl (G.2.1, 1200, .inl (upd (upd (upd (upd (upd (fun _ => 0) 0 0) 1 1) 2 17) 3 100001) 4 100030))), (he, .inl (G.2.1, 200, .inl (upd (fun _ => 0) 0 17)))]) (w1 := [(h0, .inr (6, [.int 0, .ref kd, .ref mo, .ref st, .int 0, .ref ro, .ref tp, .int 40, .ref cd, .ref sr, .int 0, .int 0, .int 0, .ref ir, .ref ih, .ref ss, .ref sq, .ref ce, .ref lw, .int 40, .int 40, .int 0, .int 0, .ref wo, .ref he, .int 0, .int 0, .int 5, .ref sk, .ref na, .ref kp, .int 0, .int 0, .int 0, .int 0, .ref gb, .ref go, .ref fa, .ref ga, .int 0, .int 0, .ref vo])), (tp, .inl (G.2.1, 160, .inl (gPf tB 40))), (wo, .inl (G.2.1, 96, .inl (gPf tW 96)))]) hP hD [3, 4, 5] [0, 1, 2] rfl rfl (by decide) (by decide) hk1 hFc hP1 hD1
  have hP : va_P G.1 vwCl [(sr, .inl (G.2.1, 24, .inl (upd (upd (upd (fun _ => 0) 0 0) 1 3) 2 4))), (cd, .inl (G.2.1, 1200, .inl (upd (upd (upd (upd (upd (fun _ => 0) 0 0) 1 1) 2 17) 3 100001) 4 100030))), (he, .inl (G.2.1, 200, .inl (upd (fun _ => 0) 0 17))), (h0, .inr (6, [.int 0, .ref kd, .ref mo, .ref st, .int 0, .ref ro, .ref tp, .int 40, .ref cd, .ref sr, .int 0, .int 0, .int 0, .ref ir, .ref ih, .ref ss, .ref sq, .ref ce, .ref lw, .int 40, .int 40, .int 0, .int 0, .ref wo, .ref he, .int 0, .int 0, .int 5, .ref sk, .ref na, .ref kp, .int 0, .int 0, .int 0, .int 0, .ref gb, .ref go, .ref fa, .ref ga, .int 0, .int 0, .ref vo])), (tp, .inl (G.2.1, 160, .inl (gPf tB 40))), (wo, .inl (G.2.1, 96, .inl (gPf tW 96)))] H := hP
  have hD : va_D A [(sr, .inl (G.2.1, 24, .inl (upd (upd (upd (fun _ => 0) 0 0) 1 3) 2 4))), (cd, .inl (G.2.1, 1200, .inl (upd (upd (upd (upd (upd (fun _ => 0) 0 0) 1 1) 2 17) 3 100001) 4 100030))), (he, .inl (G.2.1, 200, .inl (upd (fun _ => 0) 0 17))), (h0, .inr (6, [.int 0, .ref kd, .ref mo, .ref st, .int 0, .ref ro, .ref tp, .int 40, .ref cd, .ref sr, .int 0, .int 0, .int 0, .ref ir, .ref ih, .ref ss, .ref sq, .ref ce, .ref lw, .int 40, .int 40, .int 0, .int 0, .ref wo, .ref he, .int 0, .int 0, .int 5, .ref sk, .ref na, .ref kp, .int 0, .int 0, .int 0, .int 0, .ref gb, .ref go, .ref fa, .ref ga, .int 0, .int 0, .ref vo])), (tp, .inl (G.2.1, 160, .inl (gPf tB 40))), (wo, .inl (G.2.1, 96, .inl (gPf tW 96)))] := hD
  refine lv_aload_n hx hb dX6_text_109 rfl (lv_at hl 2 rfl) ?_
  refine va_get (D := G.1) (ci := 6) (v := .int 0) (C := RX6) (T := TX6) (N := 42) hx hb hts hiX6 hown hK hP 3 rfl rfl 21 (by decide) kf117 (fun _ h9 => h9) rfl dX6_text_110 ?_
  refine lv_if_ne (tgt := 120) hx hb dX6_text_113 (by decide) (fun c_42 => ?_) (fun c_42 => ?_)
  · exact absurd (by decide) c_42
  refine lv_iconst (v := 1) hx hb dX6_text_116 (by decide) ?_
  refine lv_goto (tgt := 121) hx hb dX6_text_117 (by decide) ?_
  refine lv_istore_n (lv' := [(1, .int 1), (2, .int 3), (0, .ref h0)]) hx hb dX6_text_121 rfl hl (by decide) rfl (fun ls hl => ?_)
  refine lv_aload_n hx hb dX6_text_122 rfl (lv_at hl 2 rfl) ?_
  refine va_get (D := G.1) (ci := 6) (v := .ref sr) (C := RX6) (T := TX6) (N := 42) hx hb hts hiX6 hown hK hP 3 rfl rfl 9 (by decide) kf28 (fun _ h9 => h9) rfl dX6_text_123 ?_
  refine lv_iconst (v := 4) hx hb dX6_text_126 (by decide) ?_
  refine lv_aload_n hx hb dX6_text_127 rfl (lv_at hl 2 rfl) ?_
  refine va_get (D := G.1) (ci := 6) (v := .int 0) (C := RX6) (T := TX6) (N := 42) hx hb hts hiX6 hown hK hP 3 rfl rfl 10 (by decide) kf98 (fun _ h9 => h9) rfl dX6_text_128 ?_
  refine lv_imul hx hb dX6_text_131 ?_
  refine lv_topi (fun v_43 ev_43 => ?_)
  have ev_43 : v_43 = 0 := ev_43.trans (by decide)
  subst ev_43
  refine lv_iconst (v := 3) hx hb dX6_text_132 (by decide) ?_
  refine lv_iadd hx hb dX6_text_133 ?_
  refine lv_topi (fun v_44 ev_44 => ?_)
  have ev_44 : v_44 = 3 := ev_44.trans (by decide)
  subst ev_44
  refine lv_aload_n hx hb dX6_text_134 rfl (lv_at hl 2 rfl) ?_
  refine va_get (D := G.1) (ci := 6) (v := .int 5) (C := RX6) (T := TX6) (N := 42) hx hb hts hiX6 hown hK hP 3 rfl rfl 27 (by decide) kf127 (fun _ h9 => h9) rfl dX6_text_135 ?_
  refine va_iast (D := G.1) hx hb hK hP hD hS 0 0 rfl rfl (i := 3) (x := 5) (gIn (by decide)) dX6_text_138 (fun H locs hP hD hS => ?_)
  have hP : va_P G.1 vwCl [(sr, .inl (G.2.1, 24, .inl (upd (upd (upd (upd (fun _ => 0) 0 0) 1 3) 2 4) 3 5))), (cd, .inl (G.2.1, 1200, .inl (upd (upd (upd (upd (upd (fun _ => 0) 0 0) 1 1) 2 17) 3 100001) 4 100030))), (he, .inl (G.2.1, 200, .inl (upd (fun _ => 0) 0 17))), (h0, .inr (6, [.int 0, .ref kd, .ref mo, .ref st, .int 0, .ref ro, .ref tp, .int 40, .ref cd, .ref sr, .int 0, .int 0, .int 0, .ref ir, .ref ih, .ref ss, .ref sq, .ref ce, .ref lw, .int 40, .int 40, .int 0, .int 0, .ref wo, .ref he, .int 0, .int 0, .int 5, .ref sk, .ref na, .ref kp, .int 0, .int 0, .int 0, .int 0, .ref gb, .ref go, .ref fa, .ref ga, .int 0, .int 0, .ref vo])), (tp, .inl (G.2.1, 160, .inl (gPf tB 40))), (wo, .inl (G.2.1, 96, .inl (gPf tW 96)))] H := hP
  have hD : va_D A [(sr, .inl (G.2.1, 24, .inl (upd (upd (upd (upd (fun _ => 0) 0 0) 1 3) 2 4) 3 5))), (cd, .inl (G.2.1, 1200, .inl (upd (upd (upd (upd (upd (fun _ => 0) 0 0) 1 1) 2 17) 3 100001) 4 100030))), (he, .inl (G.2.1, 200, .inl (upd (fun _ => 0) 0 17))), (h0, .inr (6, [.int 0, .ref kd, .ref mo, .ref st, .int 0, .ref ro, .ref tp, .int 40, .ref cd, .ref sr, .int 0, .int 0, .int 0, .ref ir, .ref ih, .ref ss, .ref sq, .ref ce, .ref lw, .int 40, .int 40, .int 0, .int 0, .ref wo, .ref he, .int 0, .int 0, .int 5, .ref sk, .ref na, .ref kp, .int 0, .int 0, .int 0, .int 0, .ref gb, .ref go, .ref fa, .ref ga, .int 0, .int 0, .ref vo])), (tp, .inl (G.2.1, 160, .inl (gPf tB 40))), (wo, .inl (G.2.1, 96, .inl (gPf tW 96)))] := hD
  refine lv_aload_n hx hb dX6_text_139 rfl (lv_at hl 2 rfl) ?_
  refine lv_iconst (v := 0) hx hb dX6_text_140 (by decide) ?_
  refine va_put (D := G.1) (ci := 6) (v := .int 0) (ty := .int) (C := RX6) (T := TX6) (N := 42) hx hb hts hiX6 tyX6 tyX6_ok nmX6 hown hK hP hD hS 3 rfl rfl 7 (by decide) kf80 (fun _ h9 => h9) rfl (by decide +kernel) rfl rfl (Nat.le_of_ble_eq_true rfl) dX6_text_141 (fun H locs hP hD hS => ?_)
  have hP : va_P G.1 vwCl [(sr, .inl (G.2.1, 24, .inl (upd (upd (upd (upd (fun _ => 0) 0 0) 1 3) 2 4) 3 5))), (cd, .inl (G.2.1, 1200, .inl (upd (upd (upd (upd (upd (fun _ => 0) 0 0) 1 1) 2 17) 3 100001) 4 100030))), (he, .inl (G.2.1, 200, .inl (upd (fun _ => 0) 0 17))), (h0, .inr (6, [.int 0, .ref kd, .ref mo, .ref st, .int 0, .ref ro, .ref tp, .int 0, .ref cd, .ref sr, .int 0, .int 0, .int 0, .ref ir, .ref ih, .ref ss, .ref sq, .ref ce, .ref lw, .int 40, .int 40, .int 0, .int 0, .ref wo, .ref he, .int 0, .int 0, .int 5, .ref sk, .ref na, .ref kp, .int 0, .int 0, .int 0, .int 0, .ref gb, .ref go, .ref fa, .ref ga, .int 0, .int 0, .ref vo])), (tp, .inl (G.2.1, 160, .inl (gPf tB 40))), (wo, .inl (G.2.1, 96, .inl (gPf tW 96)))] H := hP
  have hD : va_D A [(sr, .inl (G.2.1, 24, .inl (upd (upd (upd (upd (fun _ => 0) 0 0) 1 3) 2 4) 3 5))), (cd, .inl (G.2.1, 1200, .inl (upd (upd (upd (upd (upd (fun _ => 0) 0 0) 1 1) 2 17) 3 100001) 4 100030))), (he, .inl (G.2.1, 200, .inl (upd (fun _ => 0) 0 17))), (h0, .inr (6, [.int 0, .ref kd, .ref mo, .ref st, .int 0, .ref ro, .ref tp, .int 0, .ref cd, .ref sr, .int 0, .int 0, .int 0, .ref ir, .ref ih, .ref ss, .ref sq, .ref ce, .ref lw, .int 40, .int 40, .int 0, .int 0, .ref wo, .ref he, .int 0, .int 0, .int 5, .ref sk, .ref na, .ref kp, .int 0, .int 0, .int 0, .int 0, .ref gb, .ref go, .ref fa, .ref ga, .int 0, .int 0, .ref vo])), (tp, .inl (G.2.1, 160, .inl (gPf tB 40))), (wo, .inl (G.2.1, 96, .inl (gPf tW 96)))] := hD
  refine lv_iload_n hx hb dX6_text_144 rfl (lv_at hl 0 rfl) ?_
  refine lv_if_ne (tgt := 156) hx hb dX6_text_145 (by decide) (fun c_45 => ?_) (fun c_45 => ?_)
  rotate_left
  · exact absurd c_45 (by decide)
  refine lv_aload_n hx hb dX6_text_156 rfl (lv_at hl 2 rfl) ?_
  refine lv_dup hx hb dX6_text_157 rfl ?_
  refine va_get (D := G.1) (ci := 6) (v := .int 0) (C := RX6) (T := TX6) (N := 42) hx hb hts hiX6 hown hK hP 3 rfl rfl 10 (by decide) kf98 (fun _ h9 => h9) rfl dX6_text_158 ?_
  refine lv_iconst (v := 1) hx hb dX6_text_161 (by decide) ?_
  refine lv_iadd hx hb dX6_text_162 ?_
  refine lv_topi (fun v_46 ev_46 => ?_)
  have ev_46 : v_46 = 1 := ev_46.trans (by decide)
  subst ev_46
  refine va_put (D := G.1) (ci := 6) (v := .int 1) (ty := .int) (C := RX6) (T := TX6) (N := 42) hx hb hts hiX6 tyX6 tyX6_ok nmX6 hown hK hP hD hS 3 rfl rfl 10 (by decide) kf98 (fun _ h9 => h9) rfl (by decide +kernel) rfl rfl (Nat.le_of_ble_eq_true rfl) dX6_text_163 (fun H locs hP hD hS => ?_)
  have hP : va_P G.1 vwCl [(sr, .inl (G.2.1, 24, .inl (upd (upd (upd (upd (fun _ => 0) 0 0) 1 3) 2 4) 3 5))), (cd, .inl (G.2.1, 1200, .inl (upd (upd (upd (upd (upd (fun _ => 0) 0 0) 1 1) 2 17) 3 100001) 4 100030))), (he, .inl (G.2.1, 200, .inl (upd (fun _ => 0) 0 17))), (h0, .inr (6, [.int 0, .ref kd, .ref mo, .ref st, .int 0, .ref ro, .ref tp, .int 0, .ref cd, .ref sr, .int 1, .int 0, .int 0, .ref ir, .ref ih, .ref ss, .ref sq, .ref ce, .ref lw, .int 40, .int 40, .int 0, .int 0, .ref wo, .ref he, .int 0, .int 0, .int 5, .ref sk, .ref na, .ref kp, .int 0, .int 0, .int 0, .int 0, .ref gb, .ref go, .ref fa, .ref ga, .int 0, .int 0, .ref vo])), (tp, .inl (G.2.1, 160, .inl (gPf tB 40))), (wo, .inl (G.2.1, 96, .inl (gPf tW 96)))] H := hP
  have hD : va_D A [(sr, .inl (G.2.1, 24, .inl (upd (upd (upd (upd (fun _ => 0) 0 0) 1 3) 2 4) 3 5))), (cd, .inl (G.2.1, 1200, .inl (upd (upd (upd (upd (upd (fun _ => 0) 0 0) 1 1) 2 17) 3 100001) 4 100030))), (he, .inl (G.2.1, 200, .inl (upd (fun _ => 0) 0 17))), (h0, .inr (6, [.int 0, .ref kd, .ref mo, .ref st, .int 0, .ref ro, .ref tp, .int 0, .ref cd, .ref sr, .int 1, .int 0, .int 0, .ref ir, .ref ih, .ref ss, .ref sq, .ref ce, .ref lw, .int 40, .int 40, .int 0, .int 0, .ref wo, .ref he, .int 0, .int 0, .int 5, .ref sk, .ref na, .ref kp, .int 0, .int 0, .int 0, .int 0, .ref gb, .ref go, .ref fa, .ref ga, .int 0, .int 0, .ref vo])), (tp, .inl (G.2.1, 160, .inl (gPf tB 40))), (wo, .inl (G.2.1, 96, .inl (gPf tW 96)))] := hD
  refine lv_aload_n hx hb dX6_text_166 rfl (lv_at hl 2 rfl) ?_
  refine va_get (D := G.1) (ci := 6) (v := .int 1) (C := RX6) (T := TX6) (N := 42) hx hb hts hiX6 hown hK hP 3 rfl rfl 10 (by decide) kf98 (fun _ h9 => h9) rfl dX6_text_167 ?_
  refine lv_iconst (v := 1) hx hb dX6_text_170 (by decide) ?_
  refine lv_isub hx hb dX6_text_171 ?_
  refine lv_topi (fun v_47 ev_47 => ?_)
  have ev_47 : v_47 = 0 := ev_47.trans (by decide)
  subst ev_47
  have hP9 := hP.sub (ws' := [(h0, .inr (6, [.int 0, .ref kd, .ref mo, .ref st, .int 0, .ref ro, .ref tp, .int 0, .ref cd, .ref sr, .int 1, .int 0, .int 0, .ref ir, .ref ih, .ref ss, .ref sq, .ref ce, .ref lw, .int 40, .int 40, .int 0, .int 0, .ref wo, .ref he, .int 0, .int 0, .int 5, .ref sk, .ref na, .ref kp, .int 0, .int 0, .int 0, .int 0, .ref gb, .ref go, .ref fa, .ref ga, .int 0, .int 0, .ref vo])), (tp, .inl (G.2.1, 160, .inl (gPf tB 40))), (wo, .inl (G.2.1, 96, .inl (gPf tW 96))), (cd, .inl (G.2.1, 1200, .inl (upd (upd (upd (upd (upd (fun _ => 0) 0 0) 1 1) 2 17) 3 100001) 4 100030))), (sr, .inl (G.2.1, 24, .inl (upd (upd (upd (upd (fun _ => 0) 0 0) 1 3) 2 4) 3 5))), (he, .inl (G.2.1, 200, .inl (upd (fun _ => 0) 0 17)))]) [3, 4, 5, 1, 0, 2] rfl
  have hD9 := hD.sub (ws' := [(h0, .inr (6, [.int 0, .ref kd, .ref mo, .ref st, .int 0, .ref ro, .ref tp, .int 0, .ref cd, .ref sr, .int 1, .int 0, .int 0, .ref ir, .ref ih, .ref ss, .ref sq, .ref ce, .ref lw, .int 40, .int 40, .int 0, .int 0, .ref wo, .ref he, .int 0, .int 0, .int 5, .ref sk, .ref na, .ref kp, .int 0, .int 0, .int 0, .int 0, .ref gb, .ref go, .ref fa, .ref ga, .int 0, .int 0, .ref vo])), (tp, .inl (G.2.1, 160, .inl (gPf tB 40))), (wo, .inl (G.2.1, 96, .inl (gPf tW 96))), (cd, .inl (G.2.1, 1200, .inl (upd (upd (upd (upd (upd (fun _ => 0) 0 0) 1 1) 2 17) 3 100001) 4 100030))), (sr, .inl (G.2.1, 24, .inl (upd (upd (upd (upd (fun _ => 0) 0 0) 1 3) 2 4) 3 5))), (he, .inl (G.2.1, 200, .inl (upd (fun _ => 0) 0 17)))]) [3, 4, 5, 1, 0, 2] (by decide) rfl
  have hpost : (fun (r : Int32) (u : Unit) => match u with | _ => r = 0) 0 () := by first | rfl | trivial
  exact W.iret (v := 0) hx hb hr (fun t ht hW => ⟨⟨0, (), rfl, hpost, by rw [ht]; exact hP9, va_K.moved hW.alike hK, hD9⟩, hS.F ht⟩) hS.2.2 dX6_text_172
