abbrev q_X6_isJudge_0 (G : gG) (h0 kd mo st ro tp cd sr ir ih ss sq ce lw wo he sk na kp gb go fa ga vo : Nat) (v0 : Int32) (A : Nat → Prop) : Array Value → State → Outcome → State → Prop := va_Qi (fun (r : Int32) (u : Unit) => match u with | _ => r = 0) (fun (u : Unit) t => match u with | _ => va_P G.1 vwCl [(h0, .inr (6, [.int 0, .ref kd, .ref mo, .ref st, .int 0, .ref ro, .ref tp, .int 0, .ref cd, .ref sr, .int 1, .int 0, .int 0, .ref ir, .ref ih, .ref ss, .ref sq, .ref ce, .ref lw, .int 40, .int 40, .int 0, .int 0, .ref wo, .ref he, .int 0, .int 0, .int 5, .ref sk, .ref na, .ref kp, .int 0, .int 0, .int 0, .int 0, .ref gb, .ref go, .ref fa, .ref ga, .int 0, .int 0, .ref vo]))] t.heap ∧ gK G t ∧ va_D A [(h0, .inr (6, [.int 0, .ref kd, .ref mo, .ref st, .int 0, .ref ro, .ref tp, .int 0, .ref cd, .ref sr, .int 1, .int 0, .int 0, .ref ir, .ref ih, .ref ss, .ref sq, .ref ce, .ref lw, .int 40, .int 40, .int 0, .int 0, .ref wo, .ref he, .int 0, .int 0, .int 5, .ref sk, .ref na, .ref kp, .int 0, .int 0, .int 0, .int 0, .ref gb, .ref go, .ref fa, .ref ga, .int 0, .int 0, .ref vo]))]) A
set_option maxHeartbeats 4000000 in
set_option maxRecDepth 100000 in
theorem c_X6_isJudge_0 (l : Launch) (G : gG) (h0 kd mo st ro tp cd sr ir ih ss sq ce lw wo he sk na kp gb go fa ga vo : Nat) (v0 : Int32) (sz : Nat) : Met l yX6_isJudge wsX6_isJudge ({ frames := 1, cells := 0, slots := 0, locals := 22 }) (gPre G [.ref h0, .int v0] [(h0, .inr (6, [.int 0, .ref kd, .ref mo, .ref st, .int 0, .ref ro, .ref tp, .int 0, .ref cd, .ref sr, .int 1, .int 0, .int 0, .ref ir, .ref ih, .ref ss, .ref sq, .ref ce, .ref lw, .int 40, .int 40, .int 0, .int 0, .ref wo, .ref he, .int 0, .int 0, .int 5, .ref sk, .ref na, .ref kp, .int 0, .int 0, .int 0, .int 0, .ref gb, .ref go, .ref fa, .ref ga, .int 0, .int 0, .ref vo]))] sz) (q_X6_isJudge_0 G h0 kd mo st ro tp cd sr ir ih ss sq ce lw wo he sk na kp gb go fa ga vo v0 (va_A [(h0, .inr (6, [.int 0, .ref kd, .ref mo, .ref st, .int 0, .ref ro, .ref tp, .int 0, .ref cd, .ref sr, .int 1, .int 0, .int 0, .ref ir, .ref ih, .ref ss, .ref sq, .ref ce, .ref lw, .int 40, .int 40, .int 0, .int 0, .ref wo, .ref he, .int 0, .int 0, .int 5, .ref sk, .ref na, .ref kp, .int 0, .int 0, .int 0, .int 0, .ref gb, .ref go, .ref fa, .ref ga, .int 0, .int 0, .ref vo]))] sz)) 0 0 (va_A [(h0, .inr (6, [.int 0, .ref kd, .ref mo, .ref st, .int 0, .ref ro, .ref tp, .int 0, .ref cd, .ref sr, .int 1, .int 0, .int 0, .ref ir, .ref ih, .ref ss, .ref sq, .ref ce, .ref lw, .int 40, .int 40, .int 0, .int 0, .ref wo, .ref he, .int 0, .int 0, .int 5, .ref sk, .ref na, .ref kp, .int 0, .int 0, .int 0, .int 0, .ref gb, .ref go, .ref fa, .ref ga, .int 0, .int 0, .ref vo]))] sz) := by
  refine Met.ofW (cc := cX6_isJudge) (maxL := 2) (ret := (some .boolean)) (by decide) rfl ?_
  intro p e s m args below meth c s₁ B hml hv
  obtain ⟨rfl, hsz, hP, hK, hD0⟩ := hv
  have hx := B.exec
  have hb := B.bytes
  have hr := B.returns
  have hts := atoms_spec (ws := wsX6_isJudge) B.pre
  have hown : s.vm.findClass RX6 = some m.cls := findClass_of_methodNamed B.named
  have hlocks := B.notSynchronized
  subst hsz
  have hD := hD0.self (sz := s.heap.size)
  generalize hAe : va_A [(h0, .inr (6, [.int 0, .ref kd, .ref mo, .ref st, .int 0, .ref ro, .ref tp, .int 0, .ref cd, .ref sr, .int 1, .int 0, .int 0, .ref ir, .ref ih, .ref ss, .ref sq, .ref ce, .ref lw, .int 40, .int 40, .int 0, .int 0, .ref wo, .ref he, .int 0, .int 0, .int 5, .ref sk, .ref na, .ref kp, .int 0, .int 0, .int 0, .int 0, .ref gb, .ref go, .ref fa, .ref ga, .int 0, .int 0, .ref vo]))] s.heap.size = A at hD ⊢
  have hA : ∀ q : Nat, s.heap.size ≤ q → A q := fun q h => by rw [← hAe]; exact Or.inr h
  have hS : va_S A s.heap s.heap [] := va_S.rf
  have hP : va_P G.1 vwCl [(h0, .inr (6, [.int 0, .ref kd, .ref mo, .ref st, .int 0, .ref ro, .ref tp, .int 0, .ref cd, .ref sr, .int 1, .int 0, .int 0, .ref ir, .ref ih, .ref ss, .ref sq, .ref ce, .ref lw, .int 40, .int 40, .int 0, .int 0, .ref wo, .ref he, .int 0, .int 0, .int 5, .ref sk, .ref na, .ref kp, .int 0, .int 0, .int 0, .int 0, .ref gb, .ref go, .ref fa, .ref ga, .int 0, .int 0, .ref vo]))] s.heap := hP
  have hD : va_D A [(h0, .inr (6, [.int 0, .ref kd, .ref mo, .ref st, .int 0, .ref ro, .ref tp, .int 0, .ref cd, .ref sr, .int 1, .int 0, .int 0, .ref ir, .ref ih, .ref ss, .ref sq, .ref ce, .ref lw, .int 40, .int 40, .int 0, .int 0, .ref wo, .ref he, .int 0, .int 0, .int 5, .ref sk, .ref na, .ref kp, .int 0, .int 0, .int 0, .int 0, .ref gb, .ref go, .ref fa, .ref ga, .int 0, .int 0, .ref vo]))] := hD
  have hl := lv_entry ([.ref h0, .int v0]) (n := 2) (Nat.le_of_ble_eq_true rfl)
  rw [lg_entry_eq]
  generalize (lg_sl ([.ref h0, .int v0]) ++ List.replicate (2 - (lg_sl ([.ref h0, .int v0])).length) Slot.unset).toArray = ls at hl ⊢
  have hl : lv_has ls 2 [(0, .ref h0), (1, .int v0)] := hl
  have kf95 := hts (.fieldLink RX6 95 "PebbleInShoeModel" "judges" "I") (by decide +kernel)
  have hiX6 := (by decide +kernel : ∀ w ∈ wsX60, w ∈ wsX6_isJudge)
  refine lv_iload_n hx hb dX6_isJudge_0 rfl (lv_at hl 1 rfl) ?_
  refine lv_iconst (v := 0) hx hb dX6_isJudge_1 (by decide) ?_
  refine lv_aload_n hx hb dX6_isJudge_2 rfl (lv_at hl 0 rfl) ?_
  refine va_get (D := G.1) (ci := 6) (v := .int 0) (C := RX6) (T := TX6) (N := 42) hx hb hts hiX6 hown hK hP 0 rfl rfl 4 (by decide) kf95 (fun _ h9 => h9) rfl dX6_isJudge_3 ?_
  refine lv_iconst (v := 1) hx hb dX6_isJudge_6 (by decide) ?_
  refine lv_isub hx hb dX6_isJudge_7 ?_
  refine lv_topi (fun v_1 ev_1 => ?_)
  have ev_1 : v_1 = -1 := ev_1.trans (by decide)
  subst ev_1
  have hPc : va_P G.1 vwCl [] s.heap := hP.sub [] rfl
  have hDc : va_D A [] := hD.sub [] (by decide) rfl
  have hFc := va_free (wc := []) hD hS hA [] rfl
  refine va_calli (va_runS (As := [.int v0, .int 0, .int (-1)]) (rest := []) ⟨hx, hb, hml, hown, hts⟩ (c_X6_in l G v0 0 (-1) s.heap.size) (va_cwS 3 hts gX6_isJudge_X6_in rfl rfl rfl (by decide +kernel) ⟨Nat.le_of_ble_eq_true rfl, Nat.le_of_ble_eq_true rfl⟩) ⟨gPre_blind, fun U hU hW => gPre_of hU hW hK hPc hDc⟩ rfl rfl hl.1 rfl (lv_room (Nat.le_of_ble_eq_true rfl)) dX6_isJudge_8 ⟨Nat.le_of_ble_eq_true rfl, Nat.le_of_ble_eq_true rfl⟩) hS (fun q _ h => hFc q h) hFc (fun r_2 u t H locs ht hvm w_3 hB hz1 hk1 hS => ?_)
  obtain ⟨hP1, hK1, hD1⟩ := hB
  rw [ht] at hP1
  have hP1 : va_P G.1 vwCl [] H := hP1
  have hD1 : va_D (va_A [] s.heap.size) [] := hD1
  have w_3 : r_2 = bz (decide (0 ≤ v0 ∧ v0 ≤ (-1))) := w_3
  obtain ⟨hP, hD⟩ := va_join (wr := [(h0, .inr (6, [.int 0, .ref kd, .ref mo, .ref st, .int 0, .ref ro, .ref tp, .int 0, .ref cd, .ref sr, .int 1, .int 0, .int 0, .ref ir, .ref ih, .ref ss, .ref sq, .ref ce, .ref lw, .int 40, .int 40, .int 0, .int 0, .ref wo, .ref he, .int 0, .int 0, .int 5, .ref sk, .ref na, .ref kp, .int 0, .int 0, .int 0, .int 0, .ref gb, .ref go, .ref fa, .ref ga, .int 0, .int 0, .ref vo]))]) (w1 := []) hP hD [] [0] rfl rfl (by decide) (by decide) hk1 hFc hP1 hD1
  have hP : va_P G.1 vwCl [(h0, .inr (6, [.int 0, .ref kd, .ref mo, .ref st, .int 0, .ref ro, .ref tp, .int 0, .ref cd, .ref sr, .int 1, .int 0, .int 0, .ref ir, .ref ih, .ref ss, .ref sq, .ref ce, .ref lw, .int 40, .int 40, .int 0, .int 0, .ref wo, .ref he, .int 0, .int 0, .int 5, .ref sk, .ref na, .ref kp, .int 0, .int 0, .int 0, .int 0, .ref gb, .ref go, .ref fa, .ref ga, .int 0, .int 0, .ref vo]))] H := hP
  have hD : va_D A [(h0, .inr (6, [.int 0, .ref kd, .ref mo, .ref st, .int 0, .ref ro, .ref tp, .int 0, .ref cd, .ref sr, .int 1, .int 0, .int 0, .ref ir, .ref ih, .ref ss, .ref sq, .ref ce, .ref lw, .int 40, .int 40, .int 0, .int 0, .ref wo, .ref he, .int 0, .int 0, .int 5, .ref sk, .ref na, .ref kp, .int 0, .int 0, .int 0, .int 0, .ref gb, .ref go, .ref fa, .ref ga, .int 0, .int 0, .ref vo]))] := hD
  have hq : r_2 = 0 := by rw [w_3]; exact g_none _
  have hP9 := hP.sub (ws' := [(h0, .inr (6, [.int 0, .ref kd, .ref mo, .ref st, .int 0, .ref ro, .ref tp, .int 0, .ref cd, .ref sr, .int 1, .int 0, .int 0, .ref ir, .ref ih, .ref ss, .ref sq, .ref ce, .ref lw, .int 40, .int 40, .int 0, .int 0, .ref wo, .ref he, .int 0, .int 0, .int 5, .ref sk, .ref na, .ref kp, .int 0, .int 0, .int 0, .int 0, .ref gb, .ref go, .ref fa, .ref ga, .int 0, .int 0, .ref vo]))]) [0] rfl
  have hD9 := hD.sub (ws' := [(h0, .inr (6, [.int 0, .ref kd, .ref mo, .ref st, .int 0, .ref ro, .ref tp, .int 0, .ref cd, .ref sr, .int 1, .int 0, .int 0, .ref ir, .ref ih, .ref ss, .ref sq, .ref ce, .ref lw, .int 40, .int 40, .int 0, .int 0, .ref wo, .ref he, .int 0, .int 0, .int 5, .ref sk, .ref na, .ref kp, .int 0, .int 0, .int 0, .int 0, .ref gb, .ref go, .ref fa, .ref ga, .int 0, .int 0, .ref vo]))]) [0] (by decide) rfl
  have hpost : (fun (r : Int32) (u : Unit) => match u with | _ => r = 0) r_2 () := hq
  exact W.zret (v := r_2) hx hb hr (by rw [hq]; rfl) (fun t ht hW => ⟨⟨r_2, (), rfl, hpost, by rw [ht]; exact hP9, va_K.moved hW.alike hK, hD9⟩, hS.F ht⟩) hS.2.2 dX6_isJudge_11
abbrev q_X6_isPebble_0 (G : gG) (h0 kd mo st ro tp cd sr ir ih ss sq ce lw wo he sk na kp gb go fa ga vo : Nat) (v0 : Int32) (A : Nat → Prop) : Array Value → State → Outcome → State → Prop := va_Qi (fun (r : Int32) (u : Unit) => match u with | _ => r = 0) (fun (u : Unit) t => match u with | _ => va_P G.1 vwCl [(h0, .inr (6, [.int 0, .ref kd, .ref mo, .ref st, .int 0, .ref ro, .ref tp, .int 0, .ref cd, .ref sr, .int 1, .int 0, .int 0, .ref ir, .ref ih, .ref ss, .ref sq, .ref ce, .ref lw, .int 40, .int 40, .int 0, .int 0, .ref wo, .ref he, .int 0, .int 0, .int 5, .ref sk, .ref na, .ref kp, .int 0, .int 0, .int 0, .int 0, .ref gb, .ref go, .ref fa, .ref ga, .int 0, .int 0, .ref vo]))] t.heap ∧ gK G t ∧ va_D A [(h0, .inr (6, [.int 0, .ref kd, .ref mo, .ref st, .int 0, .ref ro, .ref tp, .int 0, .ref cd, .ref sr, .int 1, .int 0, .int 0, .ref ir, .ref ih, .ref ss, .ref sq, .ref ce, .ref lw, .int 40, .int 40, .int 0, .int 0, .ref wo, .ref he, .int 0, .int 0, .int 5, .ref sk, .ref na, .ref kp, .int 0, .int 0, .int 0, .int 0, .ref gb, .ref go, .ref fa, .ref ga, .int 0, .int 0, .ref vo]))]) A
set_option maxHeartbeats 4000000 in
set_option maxRecDepth 100000 in
theorem c_X6_isPebble_0 (l : Launch) (G : gG) (h0 kd mo st ro tp cd sr ir ih ss sq ce lw wo he sk na kp gb go fa ga vo : Nat) (v0 : Int32) (sz : Nat) : Met l yX6_isPebble wsX6_isPebble ({ frames := 1, cells := 0, slots := 0, locals := 22 }) (gPre G [.ref h0, .int v0] [(h0, .inr (6, [.int 0, .ref kd, .ref mo, .ref st, .int 0, .ref ro, .ref tp, .int 0, .ref cd, .ref sr, .int 1, .int 0, .int 0, .ref ir, .ref ih, .ref ss, .ref sq, .ref ce, .ref lw, .int 40, .int 40, .int 0, .int 0, .ref wo, .ref he, .int 0, .int 0, .int 5, .ref sk, .ref na, .ref kp, .int 0, .int 0, .int 0, .int 0, .ref gb, .ref go, .ref fa, .ref ga, .int 0, .int 0, .ref vo]))] sz) (q_X6_isPebble_0 G h0 kd mo st ro tp cd sr ir ih ss sq ce lw wo he sk na kp gb go fa ga vo v0 (va_A [(h0, .inr (6, [.int 0, .ref kd, .ref mo, .ref st, .int 0, .ref ro, .ref tp, .int 0, .ref cd, .ref sr, .int 1, .int 0, .int 0, .ref ir, .ref ih, .ref ss, .ref sq, .ref ce, .ref lw, .int 40, .int 40, .int 0, .int 0, .ref wo, .ref he, .int 0, .int 0, .int 5, .ref sk, .ref na, .ref kp, .int 0, .int 0, .int 0, .int 0, .ref gb, .ref go, .ref fa, .ref ga, .int 0, .int 0, .ref vo]))] sz)) 0 0 (va_A [(h0, .inr (6, [.int 0, .ref kd, .ref mo, .ref st, .int 0, .ref ro, .ref tp, .int 0, .ref cd, .ref sr, .int 1, .int 0, .int 0, .ref ir, .ref ih, .ref ss, .ref sq, .ref ce, .ref lw, .int 40, .int 40, .int 0, .int 0, .ref wo, .ref he, .int 0, .int 0, .int 5, .ref sk, .ref na, .ref kp, .int 0, .int 0, .int 0, .int 0, .ref gb, .ref go, .ref fa, .ref ga, .int 0, .int 0, .ref vo]))] sz) := by
  refine Met.ofW (cc := cX6_isPebble) (maxL := 2) (ret := (some .boolean)) (by decide) rfl ?_
  intro p e s m args below meth c s₁ B hml hv
  obtain ⟨rfl, hsz, hP, hK, hD0⟩ := hv
  have hx := B.exec
  have hb := B.bytes
  have hr := B.returns
  have hts := atoms_spec (ws := wsX6_isPebble) B.pre
  have hown : s.vm.findClass RX6 = some m.cls := findClass_of_methodNamed B.named
  have hlocks := B.notSynchronized
  subst hsz
  have hD := hD0.self (sz := s.heap.size)
  generalize hAe : va_A [(h0, .inr (6, [.int 0, .ref kd, .ref mo, .ref st, .int 0, .ref ro, .ref tp, .int 0, .ref cd, .ref sr, .int 1, .int 0, .int 0, .ref ir, .ref ih, .ref ss, .ref sq, .ref ce, .ref lw, .int 40, .int 40, .int 0, .int 0, .ref wo, .ref he, .int 0, .int 0, .int 5, .ref sk, .ref na, .ref kp, .int 0, .int 0, .int 0, .int 0, .ref gb, .ref go, .ref fa, .ref ga, .int 0, .int 0, .ref vo]))] s.heap.size = A at hD ⊢
  have hA : ∀ q : Nat, s.heap.size ≤ q → A q := fun q h => by rw [← hAe]; exact Or.inr h
  have hS : va_S A s.heap s.heap [] := va_S.rf
  have hP : va_P G.1 vwCl [(h0, .inr (6, [.int 0, .ref kd, .ref mo, .ref st, .int 0, .ref ro, .ref tp, .int 0, .ref cd, .ref sr, .int 1, .int 0, .int 0, .ref ir, .ref ih, .ref ss, .ref sq, .ref ce, .ref lw, .int 40, .int 40, .int 0, .int 0, .ref wo, .ref he, .int 0, .int 0, .int 5, .ref sk, .ref na, .ref kp, .int 0, .int 0, .int 0, .int 0, .ref gb, .ref go, .ref fa, .ref ga, .int 0, .int 0, .ref vo]))] s.heap := hP
  have hD : va_D A [(h0, .inr (6, [.int 0, .ref kd, .ref mo, .ref st, .int 0, .ref ro, .ref tp, .int 0, .ref cd, .ref sr, .int 1, .int 0, .int 0, .ref ir, .ref ih, .ref ss, .ref sq, .ref ce, .ref lw, .int 40, .int 40, .int 0, .int 0, .ref wo, .ref he, .int 0, .int 0, .int 5, .ref sk, .ref na, .ref kp, .int 0, .int 0, .int 0, .int 0, .ref gb, .ref go, .ref fa, .ref ga, .int 0, .int 0, .ref vo]))] := hD
  have hl := lv_entry ([.ref h0, .int v0]) (n := 2) (Nat.le_of_ble_eq_true rfl)
  rw [lg_entry_eq]
  generalize (lg_sl ([.ref h0, .int v0]) ++ List.replicate (2 - (lg_sl ([.ref h0, .int v0])).length) Slot.unset).toArray = ls at hl ⊢
  have hl : lv_has ls 2 [(0, .ref h0), (1, .int v0)] := hl
  have kf88 := hts (.fieldLink RX6 88 "PebbleInShoeModel" "pebbles" "I") (by decide +kernel)
  have hiX6 := (by decide +kernel : ∀ w ∈ wsX60, w ∈ wsX6_isPebble)
  refine lv_iload_n hx hb dX6_isPebble_0 rfl (lv_at hl 1 rfl) ?_
  refine lv_iconst (v := 0) hx hb dX6_isPebble_1 (by decide) ?_
  refine lv_aload_n hx hb dX6_isPebble_2 rfl (lv_at hl 0 rfl) ?_
  refine va_get (D := G.1) (ci := 6) (v := .int 0) (C := RX6) (T := TX6) (N := 42) hx hb hts hiX6 hown hK hP 0 rfl rfl 0 (by decide) kf88 (fun _ h9 => h9) rfl dX6_isPebble_3 ?_
  refine lv_iconst (v := 1) hx hb dX6_isPebble_6 (by decide) ?_
  refine lv_isub hx hb dX6_isPebble_7 ?_
  refine lv_topi (fun v_1 ev_1 => ?_)
  have ev_1 : v_1 = -1 := ev_1.trans (by decide)
  subst ev_1
  have hPc : va_P G.1 vwCl [] s.heap := hP.sub [] rfl
  have hDc : va_D A [] := hD.sub [] (by decide) rfl
  have hFc := va_free (wc := []) hD hS hA [] rfl
  refine va_calli (va_runS (As := [.int v0, .int 0, .int (-1)]) (rest := []) ⟨hx, hb, hml, hown, hts⟩ (c_X6_in l G v0 0 (-1) s.heap.size) (va_cwS 3 hts gX6_isPebble_X6_in rfl rfl rfl (by decide +kernel) ⟨Nat.le_of_ble_eq_true rfl, Nat.le_of_ble_eq_true rfl⟩) ⟨gPre_blind, fun U hU hW => gPre_of hU hW hK hPc hDc⟩ rfl rfl hl.1 rfl (lv_room (Nat.le_of_ble_eq_true rfl)) dX6_isPebble_8 ⟨Nat.le_of_ble_eq_true rfl, Nat.le_of_ble_eq_true rfl⟩) hS (fun q _ h => hFc q h) hFc (fun r_2 u t H locs ht hvm w_3 hB hz1 hk1 hS => ?_)
  obtain ⟨hP1, hK1, hD1⟩ := hB
  rw [ht] at hP1
  have hP1 : va_P G.1 vwCl [] H := hP1
  have hD1 : va_D (va_A [] s.heap.size) [] := hD1
  have w_3 : r_2 = bz (decide (0 ≤ v0 ∧ v0 ≤ (-1))) := w_3
  obtain ⟨hP, hD⟩ := va_join (wr := [(h0, .inr (6, [.int 0, .ref kd, .ref mo, .ref st, .int 0, .ref ro, .ref tp, .int 0, .ref cd, .ref sr, .int 1, .int 0, .int 0, .ref ir, .ref ih, .ref ss, .ref sq, .ref ce, .ref lw, .int 40, .int 40, .int 0, .int 0, .ref wo, .ref he, .int 0, .int 0, .int 5, .ref sk, .ref na, .ref kp, .int 0, .int 0, .int 0, .int 0, .ref gb, .ref go, .ref fa, .ref ga, .int 0, .int 0, .ref vo]))]) (w1 := []) hP hD [] [0] rfl rfl (by decide) (by decide) hk1 hFc hP1 hD1
  have hP : va_P G.1 vwCl [(h0, .inr (6, [.int 0, .ref kd, .ref mo, .ref st, .int 0, .ref ro, .ref tp, .int 0, .ref cd, .ref sr, .int 1, .int 0, .int 0, .ref ir, .ref ih, .ref ss, .ref sq, .ref ce, .ref lw, .int 40, .int 40, .int 0, .int 0, .ref wo, .ref he, .int 0, .int 0, .int 5, .ref sk, .ref na, .ref kp, .int 0, .int 0, .int 0, .int 0, .ref gb, .ref go, .ref fa, .ref ga, .int 0, .int 0, .ref vo]))] H := hP
  have hD : va_D A [(h0, .inr (6, [.int 0, .ref kd, .ref mo, .ref st, .int 0, .ref ro, .ref tp, .int 0, .ref cd, .ref sr, .int 1, .int 0, .int 0, .ref ir, .ref ih, .ref ss, .ref sq, .ref ce, .ref lw, .int 40, .int 40, .int 0, .int 0, .ref wo, .ref he, .int 0, .int 0, .int 5, .ref sk, .ref na, .ref kp, .int 0, .int 0, .int 0, .int 0, .ref gb, .ref go, .ref fa, .ref ga, .int 0, .int 0, .ref vo]))] := hD
  have hq : r_2 = 0 := by rw [w_3]; exact g_none _
  have hP9 := hP.sub (ws' := [(h0, .inr (6, [.int 0, .ref kd, .ref mo, .ref st, .int 0, .ref ro, .ref tp, .int 0, .ref cd, .ref sr, .int 1, .int 0, .int 0, .ref ir, .ref ih, .ref ss, .ref sq, .ref ce, .ref lw, .int 40, .int 40, .int 0, .int 0, .ref wo, .ref he, .int 0, .int 0, .int 5, .ref sk, .ref na, .ref kp, .int 0, .int 0, .int 0, .int 0, .ref gb, .ref go, .ref fa, .ref ga, .int 0, .int 0, .ref vo]))]) [0] rfl
  have hD9 := hD.sub (ws' := [(h0, .inr (6, [.int 0, .ref kd, .ref mo, .ref st, .int 0, .ref ro, .ref tp, .int 0, .ref cd, .ref sr, .int 1, .int 0, .int 0, .ref ir, .ref ih, .ref ss, .ref sq, .ref ce, .ref lw, .int 40, .int 40, .int 0, .int 0, .ref wo, .ref he, .int 0, .int 0, .int 5, .ref sk, .ref na, .ref kp, .int 0, .int 0, .int 0, .int 0, .ref gb, .ref go, .ref fa, .ref ga, .int 0, .int 0, .ref vo]))]) [0] (by decide) rfl
  have hpost : (fun (r : Int32) (u : Unit) => match u with | _ => r = 0) r_2 () := hq
  exact W.zret (v := r_2) hx hb hr (by rw [hq]; rfl) (fun t ht hW => ⟨⟨r_2, (), rfl, hpost, by rw [ht]; exact hP9, va_K.moved hW.alike hK, hD9⟩, hS.F ht⟩) hS.2.2 dX6_isPebble_11
theorem pp_X6_sheetWrong_0_1 (v0 : Int32) (p_4 : 0 ≤ v0 ∧ v0 ≤ 3) : ((-11) : Int32) = (if 0 ≤ v0 ∧ v0 ≤ 3 then -11 else -2) := by
  first
    | rfl
    | exact bz_pos (by (first | omega | (simp only [Int32.lt_iff_toInt_lt, Int32.le_iff_toInt_le, ← Int32.toInt_inj, Int32.reduceToInt] at * <;> omega)))
    | exact bz_neg (by (first | omega | (simp only [Int32.lt_iff_toInt_lt, Int32.le_iff_toInt_le, ← Int32.toInt_inj, Int32.reduceToInt] at * <;> omega)))
    | ((repeat' split) <;> first | rfl | assumption | (symm; assumption) | (exfalso; (first | omega | (simp only [Int32.lt_iff_toInt_lt, Int32.le_iff_toInt_le, ← Int32.toInt_inj, Int32.reduceToInt] at * <;> omega))))
theorem pp_X6_sheetWrong_0_2 (v0 : Int32) (n_5 : ¬ (0 ≤ v0 ∧ v0 ≤ 3)) : ((-2) : Int32) = (if 0 ≤ v0 ∧ v0 ≤ 3 then -11 else -2) := by
  first
    | rfl
    | exact bz_pos (by (first | omega | (simp only [Int32.lt_iff_toInt_lt, Int32.le_iff_toInt_le, ← Int32.toInt_inj, Int32.reduceToInt] at * <;> omega)))
    | exact bz_neg (by (first | omega | (simp only [Int32.lt_iff_toInt_lt, Int32.le_iff_toInt_le, ← Int32.toInt_inj, Int32.reduceToInt] at * <;> omega)))
    | ((repeat' split) <;> first | rfl | assumption | (symm; assumption) | (exfalso; (first | omega | (simp only [Int32.lt_iff_toInt_lt, Int32.le_iff_toInt_le, ← Int32.toInt_inj, Int32.reduceToInt] at * <;> omega))))
abbrev q_X6_sheetWrong_0 (G : gG) (h0 kd mo st ro tp cd sr ir ih ss sq ce lw wo he sk na kp gb go fa ga vo : Nat) (v0 : Int32) (A : Nat → Prop) : Array Value → State → Outcome → State → Prop := va_Qi (fun (r : Int32) (u : Unit) => match u with | _ => r = (if 0 ≤ v0 ∧ v0 ≤ 3 then -11 else -2)) (fun (u : Unit) t => match u with | _ => va_P G.1 vwCl [(h0, .inr (6, [.int 0, .ref kd, .ref mo, .ref st, .int 0, .ref ro, .ref tp, .int 0, .ref cd, .ref sr, .int 1, .int 0, .int 0, .ref ir, .ref ih, .ref ss, .ref sq, .ref ce, .ref lw, .int 40, .int 40, .int 0, .int 0, .ref wo, .ref he, .int 0, .int 0, .int 5, .ref sk, .ref na, .ref kp, .int 0, .int 0, .int 0, .int 0, .ref gb, .ref go, .ref fa, .ref ga, .int 0, .int 0, .ref vo])), (ss, .inl (G.2.1, 4, .inl (upd (upd (upd (upd (fun _ => 0) 0 (-1)) 1 (-1)) 2 (-1)) 3 (-1))))] t.heap ∧ gK G t ∧ va_D A [(h0, .inr (6, [.int 0, .ref kd, .ref mo, .ref st, .int 0, .ref ro, .ref tp, .int 0, .ref cd, .ref sr, .int 1, .int 0, .int 0, .ref ir, .ref ih, .ref ss, .ref sq, .ref ce, .ref lw, .int 40, .int 40, .int 0, .int 0, .ref wo, .ref he, .int 0, .int 0, .int 5, .ref sk, .ref na, .ref kp, .int 0, .int 0, .int 0, .int 0, .ref gb, .ref go, .ref fa, .ref ga, .int 0, .int 0, .ref vo])), (ss, .inl (G.2.1, 4, .inl (upd (upd (upd (upd (fun _ => 0) 0 (-1)) 1 (-1)) 2 (-1)) 3 (-1))))]) A
set_option maxHeartbeats 4000000 in
set_option maxRecDepth 100000 in
theorem c_X6_sheetWrong_0 (l : Launch) (G : gG) (h0 kd mo st ro tp cd sr ir ih ss sq ce lw wo he sk na kp gb go fa ga vo : Nat) (v0 : Int32) (sz : Nat) : Met l yX6_sheetWrong wsX6_sheetWrong ({ frames := 1, cells := 0, slots := 0, locals := 22 }) (gPre G [.ref h0, .int v0] [(h0, .inr (6, [.int 0, .ref kd, .ref mo, .ref st, .int 0, .ref ro, .ref tp, .int 0, .ref cd, .ref sr, .int 1, .int 0, .int 0, .ref ir, .ref ih, .ref ss, .ref sq, .ref ce, .ref lw, .int 40, .int 40, .int 0, .int 0, .ref wo, .ref he, .int 0, .int 0, .int 5, .ref sk, .ref na, .ref kp, .int 0, .int 0, .int 0, .int 0, .ref gb, .ref go, .ref fa, .ref ga, .int 0, .int 0, .ref vo])), (ss, .inl (G.2.1, 4, .inl (upd (upd (upd (upd (fun _ => 0) 0 (-1)) 1 (-1)) 2 (-1)) 3 (-1))))] sz) (q_X6_sheetWrong_0 G h0 kd mo st ro tp cd sr ir ih ss sq ce lw wo he sk na kp gb go fa ga vo v0 (va_A [(h0, .inr (6, [.int 0, .ref kd, .ref mo, .ref st, .int 0, .ref ro, .ref tp, .int 0, .ref cd, .ref sr, .int 1, .int 0, .int 0, .ref ir, .ref ih, .ref ss, .ref sq, .ref ce, .ref lw, .int 40, .int 40, .int 0, .int 0, .ref wo, .ref he, .int 0, .int 0, .int 5, .ref sk, .ref na, .ref kp, .int 0, .int 0, .int 0, .int 0, .ref gb, .ref go, .ref fa, .ref ga, .int 0, .int 0, .ref vo])), (ss, .inl (G.2.1, 4, .inl (upd (upd (upd (upd (fun _ => 0) 0 (-1)) 1 (-1)) 2 (-1)) 3 (-1))))] sz)) 0 0 (va_A [(h0, .inr (6, [.int 0, .ref kd, .ref mo, .ref st, .int 0, .ref ro, .ref tp, .int 0, .ref cd, .ref sr, .int 1, .int 0, .int 0, .ref ir, .ref ih, .ref ss, .ref sq, .ref ce, .ref lw, .int 40, .int 40, .int 0, .int 0, .ref wo, .ref he, .int 0, .int 0, .int 5, .ref sk, .ref na, .ref kp, .int 0, .int 0, .int 0, .int 0, .ref gb, .ref go, .ref fa, .ref ga, .int 0, .int 0, .ref vo])), (ss, .inl (G.2.1, 4, .inl (upd (upd (upd (upd (fun _ => 0) 0 (-1)) 1 (-1)) 2 (-1)) 3 (-1))))] sz) := by
  refine Met.ofW (cc := cX6_sheetWrong) (maxL := 5) (ret := (some .int)) (by decide) rfl ?_
  intro p e s m args below meth c s₁ B hml hv
  obtain ⟨rfl, hsz, hP, hK, hD0⟩ := hv
  have hx := B.exec
  have hb := B.bytes
  have hr := B.returns
  have hts := atoms_spec (ws := wsX6_sheetWrong) B.pre
  have hown : s.vm.findClass RX6 = some m.cls := findClass_of_methodNamed B.named
  have hlocks := B.notSynchronized
  subst hsz
  have hD := hD0.self (sz := s.heap.size)
  generalize hAe : va_A [(h0, .inr (6, [.int 0, .ref kd, .ref mo, .ref st, .int 0, .ref ro, .ref tp, .int 0, .ref cd, .ref sr, .int 1, .int 0, .int 0, .ref ir, .ref ih, .ref ss, .ref sq, .ref ce, .ref lw, .int 40, .int 40, .int 0, .int 0, .ref wo, .ref he, .int 0, .int 0, .int 5, .ref sk, .ref na, .ref kp, .int 0, .int 0, .int 0, .int 0, .ref gb, .ref go, .ref fa, .ref ga, .int 0, .int 0, .ref vo])), (ss, .inl (G.2.1, 4, .inl (upd (upd (upd (upd (fun _ => 0) 0 (-1)) 1 (-1)) 2 (-1)) 3 (-1))))] s.heap.size = A at hD ⊢
  have hA : ∀ q : Nat, s.heap.size ≤ q → A q := fun q h => by rw [← hAe]; exact Or.inr h
  have hS : va_S A s.heap s.heap [] := va_S.rf
  have hP : va_P G.1 vwCl [(h0, .inr (6, [.int 0, .ref kd, .ref mo, .ref st, .int 0, .ref ro, .ref tp, .int 0, .ref cd, .ref sr, .int 1, .int 0, .int 0, .ref ir, .ref ih, .ref ss, .ref sq, .ref ce, .ref lw, .int 40, .int 40, .int 0, .int 0, .ref wo, .ref he, .int 0, .int 0, .int 5, .ref sk, .ref na, .ref kp, .int 0, .int 0, .int 0, .int 0, .ref gb, .ref go, .ref fa, .ref ga, .int 0, .int 0, .ref vo])), (ss, .inl (G.2.1, 4, .inl (upd (upd (upd (upd (fun _ => 0) 0 (-1)) 1 (-1)) 2 (-1)) 3 (-1))))] s.heap := hP
  have hD : va_D A [(h0, .inr (6, [.int 0, .ref kd, .ref mo, .ref st, .int 0, .ref ro, .ref tp, .int 0, .ref cd, .ref sr, .int 1, .int 0, .int 0, .ref ir, .ref ih, .ref ss, .ref sq, .ref ce, .ref lw, .int 40, .int 40, .int 0, .int 0, .ref wo, .ref he, .int 0, .int 0, .int 5, .ref sk, .ref na, .ref kp, .int 0, .int 0, .int 0, .int 0, .ref gb, .ref go, .ref fa, .ref ga, .int 0, .int 0, .ref vo])), (ss, .inl (G.2.1, 4, .inl (upd (upd (upd (upd (fun _ => 0) 0 (-1)) 1 (-1)) 2 (-1)) 3 (-1))))] := hD
  have hl := lv_entry ([.ref h0, .int v0]) (n := 5) (Nat.le_of_ble_eq_true rfl)
  rw [lg_entry_eq]
  generalize (lg_sl ([.ref h0, .int v0]) ++ List.replicate (5 - (lg_sl ([.ref h0, .int v0])).length) Slot.unset).toArray = ls at hl ⊢
  have hl : lv_has ls 5 [(0, .ref h0), (1, .int v0)] := hl
  have kf37 := hts (.fieldLink RX6 37 "PebbleInShoeModel" "sheetSort" "[I") (by decide +kernel)
  have hiX6 := (by decide +kernel : ∀ w ∈ wsX60, w ∈ wsX6_sheetWrong)
  refine lv_iload_n hx hb dX6_sheetWrong_0 rfl (lv_at hl 1 rfl) ?_
  refine lv_iconst (v := 0) hx hb dX6_sheetWrong_1 (by decide) ?_
  refine lv_iconst (v := 3) hx hb dX6_sheetWrong_2 (by decide) ?_
  have hPc : va_P G.1 vwCl [] s.heap := hP.sub [] rfl
  have hDc : va_D A [] := hD.sub [] (by decide) rfl
  have hFc := va_free (wc := []) hD hS hA [] rfl
  refine va_calli (va_runS (As := [.int v0, .int 0, .int 3]) (rest := []) ⟨hx, hb, hml, hown, hts⟩ (c_X6_in l G v0 0 3 s.heap.size) (va_cwS 3 hts gX6_sheetWrong_X6_in rfl rfl rfl (by decide +kernel) ⟨Nat.le_of_ble_eq_true rfl, Nat.le_of_ble_eq_true rfl⟩) ⟨gPre_blind, fun U hU hW => gPre_of hU hW hK hPc hDc⟩ rfl rfl hl.1 rfl (lv_room (Nat.le_of_ble_eq_true rfl)) dX6_sheetWrong_3 ⟨Nat.le_of_ble_eq_true rfl, Nat.le_of_ble_eq_true rfl⟩) hS (fun q _ h => hFc q h) hFc (fun r_1 u t H locs ht hvm w_2 hB hz1 hk1 hS => ?_)
  obtain ⟨hP1, hK1, hD1⟩ := hB
  rw [ht] at hP1
  have hP1 : va_P G.1 vwCl [] H := hP1
  have hD1 : va_D (va_A [] s.heap.size) [] := hD1
  have w_2 : r_1 = bz (decide (0 ≤ v0 ∧ v0 ≤ 3)) := w_2
  obtain ⟨hP, hD⟩ := va_join (wr := [(h0, .inr (6, [.int 0, .ref kd, .ref mo, .ref st, .int 0, .ref ro, .ref tp, .int 0, .ref cd, .ref sr, .int 1, .int 0, .int 0, .ref ir, .ref ih, .ref ss, .ref sq, .ref ce, .ref lw, .int 40, .int 40, .int 0, .int 0, .ref wo, .ref he, .int 0, .int 0, .int 5, .ref sk, .ref na, .ref kp, .int 0, .int 0, .int 0, .int 0, .ref gb, .ref go, .ref fa, .ref ga, .int 0, .int 0, .ref vo])), (ss, .inl (G.2.1, 4, .inl (upd (upd (upd (upd (fun _ => 0) 0 (-1)) 1 (-1)) 2 (-1)) 3 (-1))))]) (w1 := []) hP hD [] [0, 1] rfl rfl (by decide) (by decide) hk1 hFc hP1 hD1
  have hP : va_P G.1 vwCl [(h0, .inr (6, [.int 0, .ref kd, .ref mo, .ref st, .int 0, .ref ro, .ref tp, .int 0, .ref cd, .ref sr, .int 1, .int 0, .int 0, .ref ir, .ref ih, .ref ss, .ref sq, .ref ce, .ref lw, .int 40, .int 40, .int 0, .int 0, .ref wo, .ref he, .int 0, .int 0, .int 5, .ref sk, .ref na, .ref kp, .int 0, .int 0, .int 0, .int 0, .ref gb, .ref go, .ref fa, .ref ga, .int 0, .int 0, .ref vo])), (ss, .inl (G.2.1, 4, .inl (upd (upd (upd (upd (fun _ => 0) 0 (-1)) 1 (-1)) 2 (-1)) 3 (-1))))] H := hP
  have hD : va_D A [(h0, .inr (6, [.int 0, .ref kd, .ref mo, .ref st, .int 0, .ref ro, .ref tp, .int 0, .ref cd, .ref sr, .int 1, .int 0, .int 0, .ref ir, .ref ih, .ref ss, .ref sq, .ref ce, .ref lw, .int 40, .int 40, .int 0, .int 0, .ref wo, .ref he, .int 0, .int 0, .int 5, .ref sk, .ref na, .ref kp, .int 0, .int 0, .int 0, .int 0, .ref gb, .ref go, .ref fa, .ref ga, .int 0, .int 0, .ref vo])), (ss, .inl (G.2.1, 4, .inl (upd (upd (upd (upd (fun _ => 0) 0 (-1)) 1 (-1)) 2 (-1)) 3 (-1))))] := hD
  refine lv_if_ne (tgt := 12) hx hb dX6_sheetWrong_6 (by decide) (fun c_3 => ?_) (fun c_3 => ?_)
  · skip
    have p_4 : 0 ≤ v0 ∧ v0 ≤ 3 := of_decide_eq_true (bz_ne w_2 c_3)
    refine lv_aload_n hx hb dX6_sheetWrong_12 rfl (lv_at hl 0 rfl) ?_
    refine va_get (D := G.1) (ci := 6) (v := .ref ss) (C := RX6) (T := TX6) (N := 42) hx hb hts hiX6 hown hK hP 0 rfl rfl 15 (by decide) kf37 (fun _ h9 => h9) rfl dX6_sheetWrong_13 ?_
    refine lv_iload_n hx hb dX6_sheetWrong_16 rfl (lv_at hl 1 rfl) ?_
    refine va_iald (D := G.1) hx hb hK hP 1 0 rfl rfl (i := v0) (g_in3 (by assumption)) dX6_sheetWrong_17 ?_
    refine lv_topi (fun v_6 ev_6 => ?_)
    have ev_6 : v_6 = -1 := ev_6.trans (g_m2 (by assumption))
    subst ev_6
    refine lv_iconst (v := -1) hx hb dX6_sheetWrong_18 (by decide) ?_
    refine lv_icmp_ne (tgt := 25) hx hb dX6_sheetWrong_19 (by decide) (fun c_7 => ?_) (fun c_7 => ?_)
    · exact absurd (by decide) c_7
    refine lv_bipush (v := -11) hx hb dX6_sheetWrong_22 (by decide) ?_
    have hP9 := hP.sub (ws' := [(h0, .inr (6, [.int 0, .ref kd, .ref mo, .ref st, .int 0, .ref ro, .ref tp, .int 0, .ref cd, .ref sr, .int 1, .int 0, .int 0, .ref ir, .ref ih, .ref ss, .ref sq, .ref ce, .ref lw, .int 40, .int 40, .int 0, .int 0, .ref wo, .ref he, .int 0, .int 0, .int 5, .ref sk, .ref na, .ref kp, .int 0, .int 0, .int 0, .int 0, .ref gb, .ref go, .ref fa, .ref ga, .int 0, .int 0, .ref vo])), (ss, .inl (G.2.1, 4, .inl (upd (upd (upd (upd (fun _ => 0) 0 (-1)) 1 (-1)) 2 (-1)) 3 (-1))))]) [0, 1] rfl
    have hD9 := hD.sub (ws' := [(h0, .inr (6, [.int 0, .ref kd, .ref mo, .ref st, .int 0, .ref ro, .ref tp, .int 0, .ref cd, .ref sr, .int 1, .int 0, .int 0, .ref ir, .ref ih, .ref ss, .ref sq, .ref ce, .ref lw, .int 40, .int 40, .int 0, .int 0, .ref wo, .ref he, .int 0, .int 0, .int 5, .ref sk, .ref na, .ref kp, .int 0, .int 0, .int 0, .int 0, .ref gb, .ref go, .ref fa, .ref ga, .int 0, .int 0, .ref vo])), (ss, .inl (G.2.1, 4, .inl (upd (upd (upd (upd (fun _ => 0) 0 (-1)) 1 (-1)) 2 (-1)) 3 (-1))))]) [0, 1] (by decide) rfl
    have hpost : (fun (r : Int32) (u : Unit) => match u with | _ => r = (if 0 ≤ v0 ∧ v0 ≤ 3 then -11 else -2)) (-11) () := pp_X6_sheetWrong_0_1 v0 p_4
    exact W.iret (v := (-11)) hx hb hr (fun t ht hW => ⟨⟨(-11), (), rfl, hpost, by rw [ht]; exact hP9, va_K.moved hW.alike hK, hD9⟩, hS.F ht⟩) hS.2.2 dX6_sheetWrong_24
  · skip
    have n_5 : ¬ (0 ≤ v0 ∧ v0 ≤ 3) := of_decide_eq_false (bz_eq w_2 c_3)
    refine lv_bipush (v := -2) hx hb dX6_sheetWrong_9 (by decide) ?_
    have hP9 := hP.sub (ws' := [(h0, .inr (6, [.int 0, .ref kd, .ref mo, .ref st, .int 0, .ref ro, .ref tp, .int 0, .ref cd, .ref sr, .int 1, .int 0, .int 0, .ref ir, .ref ih, .ref ss, .ref sq, .ref ce, .ref lw, .int 40, .int 40, .int 0, .int 0, .ref wo, .ref he, .int 0, .int 0, .int 5, .ref sk, .ref na, .ref kp, .int 0, .int 0, .int 0, .int 0, .ref gb, .ref go, .ref fa, .ref ga, .int 0, .int 0, .ref vo])), (ss, .inl (G.2.1, 4, .inl (upd (upd (upd (upd (fun _ => 0) 0 (-1)) 1 (-1)) 2 (-1)) 3 (-1))))]) [0, 1] rfl
    have hD9 := hD.sub (ws' := [(h0, .inr (6, [.int 0, .ref kd, .ref mo, .ref st, .int 0, .ref ro, .ref tp, .int 0, .ref cd, .ref sr, .int 1, .int 0, .int 0, .ref ir, .ref ih, .ref ss, .ref sq, .ref ce, .ref lw, .int 40, .int 40, .int 0, .int 0, .ref wo, .ref he, .int 0, .int 0, .int 5, .ref sk, .ref na, .ref kp, .int 0, .int 0, .int 0, .int 0, .ref gb, .ref go, .ref fa, .ref ga, .int 0, .int 0, .ref vo])), (ss, .inl (G.2.1, 4, .inl (upd (upd (upd (upd (fun _ => 0) 0 (-1)) 1 (-1)) 2 (-1)) 3 (-1))))]) [0, 1] (by decide) rfl
    have hpost : (fun (r : Int32) (u : Unit) => match u with | _ => r = (if 0 ≤ v0 ∧ v0 ≤ 3 then -11 else -2)) (-2) () := pp_X6_sheetWrong_0_2 v0 n_5
    exact W.iret (v := (-2)) hx hb hr (fun t ht hW => ⟨⟨(-2), (), rfl, hpost, by rw [ht]; exact hP9, va_K.moved hW.alike hK, hD9⟩, hS.F ht⟩) hS.2.2 dX6_sheetWrong_11
abbrev q_X6_toldWrong_0 (G : gG) (h0 kd mo st ro tp cd sr ir ih ss sq ce lw wo he sk na kp gb go fa ga vo : Nat) (v0 : Int32) (v1 : Int32) (A : Nat → Prop) : Array Value → State → Outcome → State → Prop := va_Qi (fun (r : Int32) (u : Unit) => match u with | _ => r = (if 0 ≤ v0 ∧ v0 ≤ 3 then -11 else -2)) (fun (u : Unit) t => match u with | _ => va_P G.1 vwCl [(h0, .inr (6, [.int 0, .ref kd, .ref mo, .ref st, .int 0, .ref ro, .ref tp, .int 0, .ref cd, .ref sr, .int 1, .int 0, .int 0, .ref ir, .ref ih, .ref ss, .ref sq, .ref ce, .ref lw, .int 40, .int 40, .int 0, .int 0, .ref wo, .ref he, .int 0, .int 0, .int 5, .ref sk, .ref na, .ref kp, .int 0, .int 0, .int 0, .int 0, .ref gb, .ref go, .ref fa, .ref ga, .int 0, .int 0, .ref vo])), (ss, .inl (G.2.1, 4, .inl (upd (upd (upd (upd (fun _ => 0) 0 (-1)) 1 (-1)) 2 (-1)) 3 (-1))))] t.heap ∧ gK G t ∧ va_D A [(h0, .inr (6, [.int 0, .ref kd, .ref mo, .ref st, .int 0, .ref ro, .ref tp, .int 0, .ref cd, .ref sr, .int 1, .int 0, .int 0, .ref ir, .ref ih, .ref ss, .ref sq, .ref ce, .ref lw, .int 40, .int 40, .int 0, .int 0, .ref wo, .ref he, .int 0, .int 0, .int 5, .ref sk, .ref na, .ref kp, .int 0, .int 0, .int 0, .int 0, .ref gb, .ref go, .ref fa, .ref ga, .int 0, .int 0, .ref vo])), (ss, .inl (G.2.1, 4, .inl (upd (upd (upd (upd (fun _ => 0) 0 (-1)) 1 (-1)) 2 (-1)) 3 (-1))))]) A
set_option maxHeartbeats 4000000 in
set_option maxRecDepth 100000 in
theorem c_X6_toldWrong_0 (l : Launch) (G : gG) (h0 kd mo st ro tp cd sr ir ih ss sq ce lw wo he sk na kp gb go fa ga vo : Nat) (v0 : Int32) (v1 : Int32) (sz : Nat) : Met l yX6_toldWrong wsX6_toldWrong ({ frames := 2, cells := 0, slots := 0, locals := 46 }) (gPre G [.ref h0, .int v0, .int v1] [(h0, .inr (6, [.int 0, .ref kd, .ref mo, .ref st, .int 0, .ref ro, .ref tp, .int 0, .ref cd, .ref sr, .int 1, .int 0, .int 0, .ref ir, .ref ih, .ref ss, .ref sq, .ref ce, .ref lw, .int 40, .int 40, .int 0, .int 0, .ref wo, .ref he, .int 0, .int 0, .int 5, .ref sk, .ref na, .ref kp, .int 0, .int 0, .int 0, .int 0, .ref gb, .ref go, .ref fa, .ref ga, .int 0, .int 0, .ref vo])), (ss, .inl (G.2.1, 4, .inl (upd (upd (upd (upd (fun _ => 0) 0 (-1)) 1 (-1)) 2 (-1)) 3 (-1))))] sz) (q_X6_toldWrong_0 G h0 kd mo st ro tp cd sr ir ih ss sq ce lw wo he sk na kp gb go fa ga vo v0 v1 (va_A [(h0, .inr (6, [.int 0, .ref kd, .ref mo, .ref st, .int 0, .ref ro, .ref tp, .int 0, .ref cd, .ref sr, .int 1, .int 0, .int 0, .ref ir, .ref ih, .ref ss, .ref sq, .ref ce, .ref lw, .int 40, .int 40, .int 0, .int 0, .ref wo, .ref he, .int 0, .int 0, .int 5, .ref sk, .ref na, .ref kp, .int 0, .int 0, .int 0, .int 0, .ref gb, .ref go, .ref fa, .ref ga, .int 0, .int 0, .ref vo])), (ss, .inl (G.2.1, 4, .inl (upd (upd (upd (upd (fun _ => 0) 0 (-1)) 1 (-1)) 2 (-1)) 3 (-1))))] sz)) 0 0 (va_A [(h0, .inr (6, [.int 0, .ref kd, .ref mo, .ref st, .int 0, .ref ro, .ref tp, .int 0, .ref cd, .ref sr, .int 1, .int 0, .int 0, .ref ir, .ref ih, .ref ss, .ref sq, .ref ce, .ref lw, .int 40, .int 40, .int 0, .int 0, .ref wo, .ref he, .int 0, .int 0, .int 5, .ref sk, .ref na, .ref kp, .int 0, .int 0, .int 0, .int 0, .ref gb, .ref go, .ref fa, .ref ga, .int 0, .int 0, .ref vo])), (ss, .inl (G.2.1, 4, .inl (upd (upd (upd (upd (fun _ => 0) 0 (-1)) 1 (-1)) 2 (-1)) 3 (-1))))] sz) := by
  refine Met.ofW (cc := cX6_toldWrong) (maxL := 4) (ret := (some .int)) (by decide) rfl ?_
  intro p e s m args below meth c s₁ B hml hv
  obtain ⟨rfl, hsz, hP, hK, hD0⟩ := hv
  have hx := B.exec
  have hb := B.bytes
  have hr := B.returns
  have hts := atoms_spec (ws := wsX6_toldWrong) B.pre
  have hown : s.vm.findClass RX6 = some m.cls := findClass_of_methodNamed B.named
  have hlocks := B.notSynchronized
  subst hsz
  have hD := hD0.self (sz := s.heap.size)
  generalize hAe : va_A [(h0, .inr (6, [.int 0, .ref kd, .ref mo, .ref st, .int 0, .ref ro, .ref tp, .int 0, .ref cd, .ref sr, .int 1, .int 0, .int 0, .ref ir, .ref ih, .ref ss, .ref sq, .ref ce, .ref lw, .int 40, .int 40, .int 0, .int 0, .ref wo, .ref he, .int 0, .int 0, .int 5, .ref sk, .ref na, .ref kp, .int 0, .int 0, .int 0, .int 0, .ref gb, .ref go, .ref fa, .ref ga, .int 0, .int 0, .ref vo])), (ss, .inl (G.2.1, 4, .inl (upd (upd (upd (upd (fun _ => 0) 0 (-1)) 1 (-1)) 2 (-1)) 3 (-1))))] s.heap.size = A at hD ⊢
  have hA : ∀ q : Nat, s.heap.size ≤ q → A q := fun q h => by rw [← hAe]; exact Or.inr h
  have hS : va_S A s.heap s.heap [] := va_S.rf
  have hP : va_P G.1 vwCl [(h0, .inr (6, [.int 0, .ref kd, .ref mo, .ref st, .int 0, .ref ro, .ref tp, .int 0, .ref cd, .ref sr, .int 1, .int 0, .int 0, .ref ir, .ref ih, .ref ss, .ref sq, .ref ce, .ref lw, .int 40, .int 40, .int 0, .int 0, .ref wo, .ref he, .int 0, .int 0, .int 5, .ref sk, .ref na, .ref kp, .int 0, .int 0, .int 0, .int 0, .ref gb, .ref go, .ref fa, .ref ga, .int 0, .int 0, .ref vo])), (ss, .inl (G.2.1, 4, .inl (upd (upd (upd (upd (fun _ => 0) 0 (-1)) 1 (-1)) 2 (-1)) 3 (-1))))] s.heap := hP
  have hD : va_D A [(h0, .inr (6, [.int 0, .ref kd, .ref mo, .ref st, .int 0, .ref ro, .ref tp, .int 0, .ref cd, .ref sr, .int 1, .int 0, .int 0, .ref ir, .ref ih, .ref ss, .ref sq, .ref ce, .ref lw, .int 40, .int 40, .int 0, .int 0, .ref wo, .ref he, .int 0, .int 0, .int 5, .ref sk, .ref na, .ref kp, .int 0, .int 0, .int 0, .int 0, .ref gb, .ref go, .ref fa, .ref ga, .int 0, .int 0, .ref vo])), (ss, .inl (G.2.1, 4, .inl (upd (upd (upd (upd (fun _ => 0) 0 (-1)) 1 (-1)) 2 (-1)) 3 (-1))))] := hD
  have hl := lv_entry ([.ref h0, .int v0, .int v1]) (n := 4) (Nat.le_of_ble_eq_true rfl)
  rw [lg_entry_eq]
  generalize (lg_sl ([.ref h0, .int v0, .int v1]) ++ List.replicate (4 - (lg_sl ([.ref h0, .int v0, .int v1])).length) Slot.unset).toArray = ls at hl ⊢
  have hl : lv_has ls 4 [(0, .ref h0), (1, .int v0), (2, .int v1)] := hl
  refine lv_aload_n hx hb dX6_toldWrong_0 rfl (lv_at hl 0 rfl) ?_
  refine lv_iload_n hx hb dX6_toldWrong_1 rfl (lv_at hl 1 rfl) ?_
  have hPc : va_P G.1 vwCl [(h0, .inr (6, [.int 0, .ref kd, .ref mo, .ref st, .int 0, .ref ro, .ref tp, .int 0, .ref cd, .ref sr, .int 1, .int 0, .int 0, .ref ir, .ref ih, .ref ss, .ref sq, .ref ce, .ref lw, .int 40, .int 40, .int 0, .int 0, .ref wo, .ref he, .int 0, .int 0, .int 5, .ref sk, .ref na, .ref kp, .int 0, .int 0, .int 0, .int 0, .ref gb, .ref go, .ref fa, .ref ga, .int 0, .int 0, .ref vo])), (ss, .inl (G.2.1, 4, .inl (upd (upd (upd (upd (fun _ => 0) 0 (-1)) 1 (-1)) 2 (-1)) 3 (-1))))] s.heap := hP.sub [0, 1] rfl
  have hDc : va_D A [(h0, .inr (6, [.int 0, .ref kd, .ref mo, .ref st, .int 0, .ref ro, .ref tp, .int 0, .ref cd, .ref sr, .int 1, .int 0, .int 0, .ref ir, .ref ih, .ref ss, .ref sq, .ref ce, .ref lw, .int 40, .int 40, .int 0, .int 0, .ref wo, .ref he, .int 0, .int 0, .int 5, .ref sk, .ref na, .ref kp, .int 0, .int 0, .int 0, .int 0, .ref gb, .ref go, .ref fa, .ref ga, .int 0, .int 0, .ref vo])), (ss, .inl (G.2.1, 4, .inl (upd (upd (upd (upd (fun _ => 0) 0 (-1)) 1 (-1)) 2 (-1)) 3 (-1))))] := hD.sub [0, 1] (by decide) rfl
  have hFc := va_free (wc := [(h0, .inr (6, [.int 0, .ref kd, .ref mo, .ref st, .int 0, .ref ro, .ref tp, .int 0, .ref cd, .ref sr, .int 1, .int 0, .int 0, .ref ir, .ref ih, .ref ss, .ref sq, .ref ce, .ref lw, .int 40, .int 40, .int 0, .int 0, .ref wo, .ref he, .int 0, .int 0, .int 5, .ref sk, .ref na, .ref kp, .int 0, .int 0, .int 0, .int 0, .ref gb, .ref go, .ref fa, .ref ga, .int 0, .int 0, .ref vo])), (ss, .inl (G.2.1, 4, .inl (upd (upd (upd (upd (fun _ => 0) 0 (-1)) 1 (-1)) 2 (-1)) 3 (-1))))]) hD hS hA [0, 1] rfl
  refine va_calli (va_runV (As := [.int v0]) (rest := []) ⟨hx, hb, hml, hown, hts⟩ (c_X6_sheetWrong_0 l G h0 kd mo st ro tp cd sr ir ih ss sq ce lw wo he sk na kp gb go fa ga vo v0 s.heap.size) (cwV 1 hts gX6_toldWrong_X6_sheetWrong rfl rfl rfl (by decide +kernel) ⟨Nat.le_of_ble_eq_true rfl, Nat.le_of_ble_eq_true rfl⟩) ⟨gPre_blind, va_recv hK hPc (ci := 6) (q0 := 0) rfl rfl, fun U hU hW => gPre_of hU hW hK hPc hDc⟩ rfl rfl hl.1 rfl (lv_room (Nat.le_of_ble_eq_true rfl)) dX6_toldWrong_2 ⟨Nat.le_of_ble_eq_true rfl, Nat.le_of_ble_eq_true rfl⟩) hS (fun q _ h => hFc q h) hFc (fun r_1 u t H locs ht hvm w_2 hB hz1 hk1 hS => ?_)
  obtain ⟨hP1, hK1, hD1⟩ := hB
  rw [ht] at hP1
  have hP1 : va_P G.1 vwCl [(h0, .inr (6, [.int 0, .ref kd, .ref mo, .ref st, .int 0, .ref ro, .ref tp, .int 0, .ref cd, .ref sr, .int 1, .int 0, .int 0, .ref ir, .ref ih, .ref ss, .ref sq, .ref ce, .ref lw, .int 40, .int 40, .int 0, .int 0, .ref wo, .ref he, .int 0, .int 0, .int 5, .ref sk, .ref na, .ref kp, .int 0, .int 0, .int 0, .int 0, .ref gb, .ref go, .ref fa, .ref ga, .int 0, .int 0, .ref vo])), (ss, .inl (G.2.1, 4, .inl (upd (upd (upd (upd (fun _ => 0) 0 (-1)) 1 (-1)) 2 (-1)) 3 (-1))))] H := hP1
  have hD1 : va_D (va_A [(h0, .inr (6, [.int 0, .ref kd, .ref mo, .ref st, .int 0, .ref ro, .ref tp, .int 0, .ref cd, .ref sr, .int 1, .int 0, .int 0, .ref ir, .ref ih, .ref ss, .ref sq, .ref ce, .ref lw, .int 40, .int 40, .int 0, .int 0, .ref wo, .ref he, .int 0, .int 0, .int 5, .ref sk, .ref na, .ref kp, .int 0, .int 0, .int 0, .int 0, .ref gb, .ref go, .ref fa, .ref ga, .int 0, .int 0, .ref vo])), (ss, .inl (G.2.1, 4, .inl (upd (upd (upd (upd (fun _ => 0) 0 (-1)) 1 (-1)) 2 (-1)) 3 (-1))))] s.heap.size) [(h0, .inr (6, [.int 0, .ref kd, .ref mo, .ref st, .int 0, .ref ro, .ref tp, .int 0, .ref cd, .ref sr, .int 1, .int 0, .int 0, .ref ir, .ref ih, .ref ss, .ref sq, .ref ce, .ref lw, .int 40, .int 40, .int 0, .int 0, .ref wo, .ref he, .int 0, .int 0, .int 5, .ref sk, .ref na, .ref kp, .int 0, .int 0, .int 0, .int 0, .ref gb, .ref go, .ref fa, .ref ga, .int 0, .int 0, .ref vo])), (ss, .inl (G.2.1, 4, .inl (upd (upd (upd (upd (fun _ => 0) 0 (-1)) 1 (-1)) 2 (-1)) 3 (-1))))] := hD1
  have w_2 : r_1 = (if 0 ≤ v0 ∧ v0 ≤ 3 then -11 else -2) := w_2
  obtain ⟨hP, hD⟩ := va_join (wr := []) (w1 := [(h0, .inr (6, [.int 0, .ref kd, .ref mo, .ref st, .int 0, .ref ro, .ref tp, .int 0, .ref cd, .ref sr, .int 1, .int 0, .int 0, .ref ir, .ref ih, .ref ss, .ref sq, .ref ce, .ref lw, .int 40, .int 40, .int 0, .int 0, .ref wo, .ref he, .int 0, .int 0, .int 5, .ref sk, .ref na, .ref kp, .int 0, .int 0, .int 0, .int 0, .ref gb, .ref go, .ref fa, .ref ga, .int 0, .int 0, .ref vo])), (ss, .inl (G.2.1, 4, .inl (upd (upd (upd (upd (fun _ => 0) 0 (-1)) 1 (-1)) 2 (-1)) 3 (-1))))]) hP hD [0, 1] [] rfl rfl (by decide) (by decide) hk1 hFc hP1 hD1
  have hP : va_P G.1 vwCl [(h0, .inr (6, [.int 0, .ref kd, .ref mo, .ref st, .int 0, .ref ro, .ref tp, .int 0, .ref cd, .ref sr, .int 1, .int 0, .int 0, .ref ir, .ref ih, .ref ss, .ref sq, .ref ce, .ref lw, .int 40, .int 40, .int 0, .int 0, .ref wo, .ref he, .int 0, .int 0, .int 5, .ref sk, .ref na, .ref kp, .int 0, .int 0, .int 0, .int 0, .ref gb, .ref go, .ref fa, .ref ga, .int 0, .int 0, .ref vo])), (ss, .inl (G.2.1, 4, .inl (upd (upd (upd (upd (fun _ => 0) 0 (-1)) 1 (-1)) 2 (-1)) 3 (-1))))] H := hP
  have hD : va_D A [(h0, .inr (6, [.int 0, .ref kd, .ref mo, .ref st, .int 0, .ref ro, .ref tp, .int 0, .ref cd, .ref sr, .int 1, .int 0, .int 0, .ref ir, .ref ih, .ref ss, .ref sq, .ref ce, .ref lw, .int 40, .int 40, .int 0, .int 0, .ref wo, .ref he, .int 0, .int 0, .int 5, .ref sk, .ref na, .ref kp, .int 0, .int 0, .int 0, .int 0, .ref gb, .ref go, .ref fa, .ref ga, .int 0, .int 0, .ref vo])), (ss, .inl (G.2.1, 4, .inl (upd (upd (upd (upd (fun _ => 0) 0 (-1)) 1 (-1)) 2 (-1)) 3 (-1))))] := hD
  have hne : ¬ r_1 = 0 := by rw [w_2]; exact g_ne _
  have hrv := w_2
  refine lv_istore_n (lv' := [(3, .int r_1), (0, .ref h0), (1, .int v0), (2, .int v1)]) hx hb dX6_toldWrong_5 rfl hl (by decide) rfl (fun ls hl => ?_)
  refine lv_iload_n hx hb dX6_toldWrong_6 rfl (lv_at hl 0 rfl) ?_
  refine lv_if_eq (tgt := 14) hx hb dX6_toldWrong_7 (by decide) (fun c_3 => ?_) (fun c_3 => ?_)
  · exact absurd c_3 (hne)
  refine lv_iload_n hx hb dX6_toldWrong_10 rfl (lv_at hl 0 rfl) ?_
  refine lv_goto (tgt := 28) hx hb dX6_toldWrong_11 (by decide) ?_
  have hP9 := hP.sub (ws' := [(h0, .inr (6, [.int 0, .ref kd, .ref mo, .ref st, .int 0, .ref ro, .ref tp, .int 0, .ref cd, .ref sr, .int 1, .int 0, .int 0, .ref ir, .ref ih, .ref ss, .ref sq, .ref ce, .ref lw, .int 40, .int 40, .int 0, .int 0, .ref wo, .ref he, .int 0, .int 0, .int 5, .ref sk, .ref na, .ref kp, .int 0, .int 0, .int 0, .int 0, .ref gb, .ref go, .ref fa, .ref ga, .int 0, .int 0, .ref vo])), (ss, .inl (G.2.1, 4, .inl (upd (upd (upd (upd (fun _ => 0) 0 (-1)) 1 (-1)) 2 (-1)) 3 (-1))))]) [0, 1] rfl
  have hD9 := hD.sub (ws' := [(h0, .inr (6, [.int 0, .ref kd, .ref mo, .ref st, .int 0, .ref ro, .ref tp, .int 0, .ref cd, .ref sr, .int 1, .int 0, .int 0, .ref ir, .ref ih, .ref ss, .ref sq, .ref ce, .ref lw, .int 40, .int 40, .int 0, .int 0, .ref wo, .ref he, .int 0, .int 0, .int 5, .ref sk, .ref na, .ref kp, .int 0, .int 0, .int 0, .int 0, .ref gb, .ref go, .ref fa, .ref ga, .int 0, .int 0, .ref vo])), (ss, .inl (G.2.1, 4, .inl (upd (upd (upd (upd (fun _ => 0) 0 (-1)) 1 (-1)) 2 (-1)) 3 (-1))))]) [0, 1] (by decide) rfl
  have hpost : (fun (r : Int32) (u : Unit) => match u with | _ => r = (if 0 ≤ v0 ∧ v0 ≤ 3 then -11 else -2)) r_1 () := hrv
  exact W.iret (v := r_1) hx hb hr (fun t ht hW => ⟨⟨r_1, (), rfl, hpost, by rw [ht]; exact hP9, va_K.moved hW.alike hK, hD9⟩, hS.F ht⟩) hS.2.2 dX6_toldWrong_28
abbrev q_X6_next_z63 (G : gG) (h0 kd mo st ro tp cd sr ir ih ss sq ce lw wo he sk na kp gb go fa ga vo : Nat) (A : Nat → Prop) : Array Value → State → Outcome → State → Prop := va_Qv (fun (u : Unit) => match u with | _ => True) (fun (u : Unit) t => match u with | _ => va_P G.1 vwCl [(h0, .inr (6, [.int 0, .ref kd, .ref mo, .ref st, .int 0, .ref ro, .ref tp, .int 0, .ref cd, .ref sr, .int 1, .int 0, .int 0, .ref ir, .ref ih, .ref ss, .ref sq, .ref ce, .ref lw, .int 0, .int 0, .int 0, .int 0, .ref wo, .ref he, .int 0, .int 0, .int 0, .ref sk, .ref na, .ref kp, .int 0, .int 0, .int 0, .int 0, .ref gb, .ref go, .ref fa, .ref ga, .int 0, .int 0, .ref vo]))] t.heap ∧ gK G t ∧ va_D A [(h0, .inr (6, [.int 0, .ref kd, .ref mo, .ref st, .int 0, .ref ro, .ref tp, .int 0, .ref cd, .ref sr, .int 1, .int 0, .int 0, .ref ir, .ref ih, .ref ss, .ref sq, .ref ce, .ref lw, .int 0, .int 0, .int 0, .int 0, .ref wo, .ref he, .int 0, .int 0, .int 0, .ref sk, .ref na, .ref kp, .int 0, .int 0, .int 0, .int 0, .ref gb, .ref go, .ref fa, .ref ga, .int 0, .int 0, .ref vo]))]) A
set_option maxHeartbeats 4000000 in
set_option maxRecDepth 100000 in
theorem c_X6_next_z63 (l : Launch) (G : gG) (h0 kd mo st ro tp cd sr ir ih ss sq ce lw wo he sk na kp gb go fa ga vo : Nat) (sz : Nat) : Met l yX6_next wsX6_next ({ frames := 0, cells := 0, slots := 0, locals := 0 }) (gPre G [.ref h0] [(h0, .inr (6, [.int 0, .ref kd, .ref mo, .ref st, .int 0, .ref ro, .ref tp, .int 0, .ref cd, .ref sr, .int 1, .int 0, .int 0, .ref ir, .ref ih, .ref ss, .ref sq, .ref ce, .ref lw, .int 0, .int 40, .int 0, .int 0, .ref wo, .ref he, .int 0, .int 0, .int 0, .ref sk, .ref na, .ref kp, .int 0, .int 0, .int 0, .int 0, .ref gb, .ref go, .ref fa, .ref ga, .int 0, .int 0, .ref vo]))] sz) (q_X6_next_z63 G h0 kd mo st ro tp cd sr ir ih ss sq ce lw wo he sk na kp gb go fa ga vo (va_A [(h0, .inr (6, [.int 0, .ref kd, .ref mo, .ref st, .int 0, .ref ro, .ref tp, .int 0, .ref cd, .ref sr, .int 1, .int 0, .int 0, .ref ir, .ref ih, .ref ss, .ref sq, .ref ce, .ref lw, .int 0, .int 40, .int 0, .int 0, .ref wo, .ref he, .int 0, .int 0, .int 0, .ref sk, .ref na, .ref kp, .int 0, .int 0, .int 0, .int 0, .ref gb, .ref go, .ref fa, .ref ga, .int 0, .int 0, .ref vo]))] sz)) 0 0 (va_A [(h0, .inr (6, [.int 0, .ref kd, .ref mo, .ref st, .int 0, .ref ro, .ref tp, .int 0, .ref cd, .ref sr, .int 1, .int 0, .int 0, .ref ir, .ref ih, .ref ss, .ref sq, .ref ce, .ref lw, .int 0, .int 40, .int 0, .int 0, .ref wo, .ref he, .int 0, .int 0, .int 0, .ref sk, .ref na, .ref kp, .int 0, .int 0, .int 0, .int 0, .ref gb, .ref go, .ref fa, .ref ga, .int 0, .int 0, .ref vo]))] sz) := by
  refine Met.ofW (cc := cX6_next) (maxL := 3) (ret := none) (by decide) rfl ?_
  intro p e s m args below meth c s₁ B hml hv
  obtain ⟨rfl, hsz, hP, hK, hD0⟩ := hv
  have hx := B.exec
  have hb := B.bytes
  have hr := B.returns
  have hts := atoms_spec (ws := wsX6_next) B.pre
  have hown : s.vm.findClass RX6 = some m.cls := findClass_of_methodNamed B.named
  have hlocks := B.notSynchronized
  subst hsz
  have hD := hD0.self (sz := s.heap.size)
  generalize hAe : va_A [(h0, .inr (6, [.int 0, .ref kd, .ref mo, .ref st, .int 0, .ref ro, .ref tp, .int 0, .ref cd, .ref sr, .int 1, .int 0, .int 0, .ref ir, .ref ih, .ref ss, .ref sq, .ref ce, .ref lw, .int 0, .int 40, .int 0, .int 0, .ref wo, .ref he, .int 0, .int 0, .int 0, .ref sk, .ref na, .ref kp, .int 0, .int 0, .int 0, .int 0, .ref gb, .ref go, .ref fa, .ref ga, .int 0, .int 0, .ref vo]))] s.heap.size = A at hD ⊢
  have hA : ∀ q : Nat, s.heap.size ≤ q → A q := fun q h => by rw [← hAe]; exact Or.inr h
  have hS : va_S A s.heap s.heap [] := va_S.rf
  have hP : va_P G.1 vwCl [(h0, .inr (6, [.int 0, .ref kd, .ref mo, .ref st, .int 0, .ref ro, .ref tp, .int 0, .ref cd, .ref sr, .int 1, .int 0, .int 0, .ref ir, .ref ih, .ref ss, .ref sq, .ref ce, .ref lw, .int 0, .int 40, .int 0, .int 0, .ref wo, .ref he, .int 0, .int 0, .int 0, .ref sk, .ref na, .ref kp, .int 0, .int 0, .int 0, .int 0, .ref gb, .ref go, .ref fa, .ref ga, .int 0, .int 0, .ref vo]))] s.heap := hP
  have hD : va_D A [(h0, .inr (6, [.int 0, .ref kd, .ref mo, .ref st, .int 0, .ref ro, .ref tp, .int 0, .ref cd, .ref sr, .int 1, .int 0, .int 0, .ref ir, .ref ih, .ref ss, .ref sq, .ref ce, .ref lw, .int 0, .int 40, .int 0, .int 0, .ref wo, .ref he, .int 0, .int 0, .int 0, .ref sk, .ref na, .ref kp, .int 0, .int 0, .int 0, .int 0, .ref gb, .ref go, .ref fa, .ref ga, .int 0, .int 0, .ref vo]))] := hD
  have hl := lv_entry ([.ref h0]) (n := 3) (Nat.le_of_ble_eq_true rfl)
  rw [lg_entry_eq]
  generalize (lg_sl ([.ref h0]) ++ List.replicate (3 - (lg_sl ([.ref h0])).length) Slot.unset).toArray = ls at hl ⊢
  have hl : lv_has ls 3 [(0, .ref h0)] := hl
  have kf111 := hts (.fieldLink RX6 111 "PebbleInShoeModel" "at" "I") (by decide +kernel)
  have hiX6 := (by decide +kernel : ∀ w ∈ wsX60, w ∈ wsX6_next)
  have kf80 := hts (.fieldLink RX6 80 "PebbleInShoeModel" "taped" "I") (by decide +kernel)
  have kf114 := hts (.fieldLink RX6 114 "PebbleInShoeModel" "begun" "I") (by decide +kernel)
  have kf117 := hts (.fieldLink RX6 117 "PebbleInShoeModel" "token" "I") (by decide +kernel)
  have kf120 := hts (.fieldLink RX6 120 "PebbleInShoeModel" "value" "I") (by decide +kernel)
  refine lv_aload_n hx hb dX6_next_0 rfl (lv_at hl 0 rfl) ?_
  refine va_get (D := G.1) (ci := 6) (v := .int 0) (C := RX6) (T := TX6) (N := 42) hx hb hts hiX6 hown hK hP 0 rfl rfl 19 (by decide) kf111 (fun _ h9 => h9) rfl dX6_next_1 ?_
  refine lv_aload_n hx hb dX6_next_4 rfl (lv_at hl 0 rfl) ?_
  refine va_get (D := G.1) (ci := 6) (v := .int 0) (C := RX6) (T := TX6) (N := 42) hx hb hts hiX6 hown hK hP 0 rfl rfl 7 (by decide) kf80 (fun _ h9 => h9) rfl dX6_next_5 ?_
  refine lv_icmp_ge (tgt := 52) hx hb dX6_next_8 (by decide) (fun c_1 => ?_) (fun c_1 => ?_)
  rotate_left
  · exact absurd (by decide) c_1
  refine lv_aload_n hx hb dX6_next_52 rfl (lv_at hl 0 rfl) ?_
  refine lv_aload_n hx hb dX6_next_53 rfl (lv_at hl 0 rfl) ?_
  refine va_get (D := G.1) (ci := 6) (v := .int 0) (C := RX6) (T := TX6) (N := 42) hx hb hts hiX6 hown hK hP 0 rfl rfl 19 (by decide) kf111 (fun _ h9 => h9) rfl dX6_next_54 ?_
  refine va_put (D := G.1) (ci := 6) (v := .int 0) (ty := .int) (C := RX6) (T := TX6) (N := 42) hx hb hts hiX6 tyX6 tyX6_ok nmX6 hown hK hP hD hS 0 rfl rfl 20 (by decide) kf114 (fun _ h9 => h9) rfl (by decide +kernel) rfl rfl (Nat.le_of_ble_eq_true rfl) dX6_next_57 (fun H locs hP hD hS => ?_)
  have hP : va_P G.1 vwCl [(h0, .inr (6, [.int 0, .ref kd, .ref mo, .ref st, .int 0, .ref ro, .ref tp, .int 0, .ref cd, .ref sr, .int 1, .int 0, .int 0, .ref ir, .ref ih, .ref ss, .ref sq, .ref ce, .ref lw, .int 0, .int 0, .int 0, .int 0, .ref wo, .ref he, .int 0, .int 0, .int 0, .ref sk, .ref na, .ref kp, .int 0, .int 0, .int 0, .int 0, .ref gb, .ref go, .ref fa, .ref ga, .int 0, .int 0, .ref vo]))] H := hP
  have hD : va_D A [(h0, .inr (6, [.int 0, .ref kd, .ref mo, .ref st, .int 0, .ref ro, .ref tp, .int 0, .ref cd, .ref sr, .int 1, .int 0, .int 0, .ref ir, .ref ih, .ref ss, .ref sq, .ref ce, .ref lw, .int 0, .int 0, .int 0, .int 0, .ref wo, .ref he, .int 0, .int 0, .int 0, .ref sk, .ref na, .ref kp, .int 0, .int 0, .int 0, .int 0, .ref gb, .ref go, .ref fa, .ref ga, .int 0, .int 0, .ref vo]))] := hD
  refine lv_aload_n hx hb dX6_next_60 rfl (lv_at hl 0 rfl) ?_
  refine lv_iconst (v := 0) hx hb dX6_next_61 (by decide) ?_
  refine va_put (D := G.1) (ci := 6) (v := .int 0) (ty := .int) (C := RX6) (T := TX6) (N := 42) hx hb hts hiX6 tyX6 tyX6_ok nmX6 hown hK hP hD hS 0 rfl rfl 21 (by decide) kf117 (fun _ h9 => h9) rfl (by decide +kernel) rfl rfl (Nat.le_of_ble_eq_true rfl) dX6_next_62 (fun H locs hP hD hS => ?_)
  have hP : va_P G.1 vwCl [(h0, .inr (6, [.int 0, .ref kd, .ref mo, .ref st, .int 0, .ref ro, .ref tp, .int 0, .ref cd, .ref sr, .int 1, .int 0, .int 0, .ref ir, .ref ih, .ref ss, .ref sq, .ref ce, .ref lw, .int 0, .int 0, .int 0, .int 0, .ref wo, .ref he, .int 0, .int 0, .int 0, .ref sk, .ref na, .ref kp, .int 0, .int 0, .int 0, .int 0, .ref gb, .ref go, .ref fa, .ref ga, .int 0, .int 0, .ref vo]))] H := hP
  have hD : va_D A [(h0, .inr (6, [.int 0, .ref kd, .ref mo, .ref st, .int 0, .ref ro, .ref tp, .int 0, .ref cd, .ref sr, .int 1, .int 0, .int 0, .ref ir, .ref ih, .ref ss, .ref sq, .ref ce, .ref lw, .int 0, .int 0, .int 0, .int 0, .ref wo, .ref he, .int 0, .int 0, .int 0, .ref sk, .ref na, .ref kp, .int 0, .int 0, .int 0, .int 0, .ref gb, .ref go, .ref fa, .ref ga, .int 0, .int 0, .ref vo]))] := hD
  refine lv_aload_n hx hb dX6_next_65 rfl (lv_at hl 0 rfl) ?_
  refine lv_iconst (v := 0) hx hb dX6_next_66 (by decide) ?_
  refine va_put (D := G.1) (ci := 6) (v := .int 0) (ty := .int) (C := RX6) (T := TX6) (N := 42) hx hb hts hiX6 tyX6 tyX6_ok nmX6 hown hK hP hD hS 0 rfl rfl 22 (by decide) kf120 (fun _ h9 => h9) rfl (by decide +kernel) rfl rfl (Nat.le_of_ble_eq_true rfl) dX6_next_67 (fun H locs hP hD hS => ?_)
  have hP : va_P G.1 vwCl [(h0, .inr (6, [.int 0, .ref kd, .ref mo, .ref st, .int 0, .ref ro, .ref tp, .int 0, .ref cd, .ref sr, .int 1, .int 0, .int 0, .ref ir, .ref ih, .ref ss, .ref sq, .ref ce, .ref lw, .int 0, .int 0, .int 0, .int 0, .ref wo, .ref he, .int 0, .int 0, .int 0, .ref sk, .ref na, .ref kp, .int 0, .int 0, .int 0, .int 0, .ref gb, .ref go, .ref fa, .ref ga, .int 0, .int 0, .ref vo]))] H := hP
  have hD : va_D A [(h0, .inr (6, [.int 0, .ref kd, .ref mo, .ref st, .int 0, .ref ro, .ref tp, .int 0, .ref cd, .ref sr, .int 1, .int 0, .int 0, .ref ir, .ref ih, .ref ss, .ref sq, .ref ce, .ref lw, .int 0, .int 0, .int 0, .int 0, .ref wo, .ref he, .int 0, .int 0, .int 0, .ref sk, .ref na, .ref kp, .int 0, .int 0, .int 0, .int 0, .ref gb, .ref go, .ref fa, .ref ga, .int 0, .int 0, .ref vo]))] := hD
  refine lv_aload_n hx hb dX6_next_70 rfl (lv_at hl 0 rfl) ?_
  refine va_get (D := G.1) (ci := 6) (v := .int 0) (C := RX6) (T := TX6) (N := 42) hx hb hts hiX6 hown hK hP 0 rfl rfl 19 (by decide) kf111 (fun _ h9 => h9) rfl dX6_next_71 ?_
  refine lv_aload_n hx hb dX6_next_74 rfl (lv_at hl 0 rfl) ?_
  refine va_get (D := G.1) (ci := 6) (v := .int 0) (C := RX6) (T := TX6) (N := 42) hx hb hts hiX6 hown hK hP 0 rfl rfl 7 (by decide) kf80 (fun _ h9 => h9) rfl dX6_next_75 ?_
  refine lv_icmp_ne (tgt := 82) hx hb dX6_next_78 (by decide) (fun c_2 => ?_) (fun c_2 => ?_)
  · exact absurd (by decide) c_2
  have hP9 := hP.sub (ws' := [(h0, .inr (6, [.int 0, .ref kd, .ref mo, .ref st, .int 0, .ref ro, .ref tp, .int 0, .ref cd, .ref sr, .int 1, .int 0, .int 0, .ref ir, .ref ih, .ref ss, .ref sq, .ref ce, .ref lw, .int 0, .int 0, .int 0, .int 0, .ref wo, .ref he, .int 0, .int 0, .int 0, .ref sk, .ref na, .ref kp, .int 0, .int 0, .int 0, .int 0, .ref gb, .ref go, .ref fa, .ref ga, .int 0, .int 0, .ref vo]))]) [0] rfl
  have hD9 := hD.sub (ws' := [(h0, .inr (6, [.int 0, .ref kd, .ref mo, .ref st, .int 0, .ref ro, .ref tp, .int 0, .ref cd, .ref sr, .int 1, .int 0, .int 0, .ref ir, .ref ih, .ref ss, .ref sq, .ref ce, .ref lw, .int 0, .int 0, .int 0, .int 0, .ref wo, .ref he, .int 0, .int 0, .int 0, .ref sk, .ref na, .ref kp, .int 0, .int 0, .int 0, .int 0, .ref gb, .ref go, .ref fa, .ref ga, .int 0, .int 0, .ref vo]))]) [0] (by decide) rfl
  have hpost : (fun (u : Unit) => match u with | _ => True) () := by first | rfl | trivial
  exact W.vret hx hb hr (fun t ht hW => ⟨⟨(), rfl, hpost, by rw [ht]; exact hP9, va_K.moved hW.alike hK, hD9⟩, hS.F ht⟩) hS.2.2 dX6_next_81
abbrev q_X6_text_e (G : gG) (h0 kd mo st ro tp cd sr ir ih ss sq ce lw wo he sk na kp gb go fa ga vo : Nat) (A : Nat → Prop) : Array Value → State → Outcome → State → Prop := va_Qi (fun (r : Int32) (u : Unit) => match u with | _ => r = -100) (fun (u : Unit) t => match u with | _ => True) A
set_option maxHeartbeats 4000000 in
set_option maxRecDepth 100000 in
theorem c_X6_text_e (l : Launch) (G : gG) (h0 kd mo st ro tp cd sr ir ih ss sq ce lw wo he sk na kp gb go fa ga vo : Nat) (sz : Nat) : Met l yX6_text wsX6_text ({ frames := 1, cells := 0, slots := 0, locals := 22 }) (gPre G [.ref h0] [(h0, .inr (6, [.int 0, .ref kd, .ref mo, .ref st, .int 0, .ref ro, .ref tp, .int 0, .ref cd, .ref sr, .int 1, .int 0, .int 0, .ref ir, .ref ih, .ref ss, .ref sq, .ref ce, .ref lw, .int 40, .int 40, .int 0, .int 0, .ref wo, .ref he, .int 0, .int 0, .int 5, .ref sk, .ref na, .ref kp, .int 0, .int 0, .int 0, .int 0, .ref gb, .ref go, .ref fa, .ref ga, .int 0, .int 0, .ref vo])), (tp, .inl (G.2.1, 160, .inl (gPf tB 40))), (sr, .inl (G.2.1, 24, .inl (upd (upd (upd (upd (fun _ => 0) 0 0) 1 3) 2 4) 3 5)))] sz) (q_X6_text_e G h0 kd mo st ro tp cd sr ir ih ss sq ce lw wo he sk na kp gb go fa ga vo (va_A [(h0, .inr (6, [.int 0, .ref kd, .ref mo, .ref st, .int 0, .ref ro, .ref tp, .int 0, .ref cd, .ref sr, .int 1, .int 0, .int 0, .ref ir, .ref ih, .ref ss, .ref sq, .ref ce, .ref lw, .int 40, .int 40, .int 0, .int 0, .ref wo, .ref he, .int 0, .int 0, .int 5, .ref sk, .ref na, .ref kp, .int 0, .int 0, .int 0, .int 0, .ref gb, .ref go, .ref fa, .ref ga, .int 0, .int 0, .ref vo])), (tp, .inl (G.2.1, 160, .inl (gPf tB 40))), (sr, .inl (G.2.1, 24, .inl (upd (upd (upd (upd (fun _ => 0) 0 0) 1 3) 2 4) 3 5)))] sz)) 0 0 (va_A [(h0, .inr (6, [.int 0, .ref kd, .ref mo, .ref st, .int 0, .ref ro, .ref tp, .int 0, .ref cd, .ref sr, .int 1, .int 0, .int 0, .ref ir, .ref ih, .ref ss, .ref sq, .ref ce, .ref lw, .int 40, .int 40, .int 0, .int 0, .ref wo, .ref he, .int 0, .int 0, .int 5, .ref sk, .ref na, .ref kp, .int 0, .int 0, .int 0, .int 0, .ref gb, .ref go, .ref fa, .ref ga, .int 0, .int 0, .ref vo])), (tp, .inl (G.2.1, 160, .inl (gPf tB 40))), (sr, .inl (G.2.1, 24, .inl (upd (upd (upd (upd (fun _ => 0) 0 0) 1 3) 2 4) 3 5)))] sz) := by
  refine Met.ofW (cc := cX6_text) (maxL := 3) (ret := (some .int)) (by decide) rfl ?_
  intro p e s m args below meth c s₁ B hml hv
  obtain ⟨rfl, hsz, hP, hK, hD0⟩ := hv
  have hx := B.exec
  have hb := B.bytes
  have hr := B.returns
  have hts := atoms_spec (ws := wsX6_text) B.pre
  have hown : s.vm.findClass RX6 = some m.cls := findClass_of_methodNamed B.named
  have hlocks := B.notSynchronized
  subst hsz
  have hD := hD0.self (sz := s.heap.size)
  generalize hAe : va_A [(h0, .inr (6, [.int 0, .ref kd, .ref mo, .ref st, .int 0, .ref ro, .ref tp, .int 0, .ref cd, .ref sr, .int 1, .int 0, .int 0, .ref ir, .ref ih, .ref ss, .ref sq, .ref ce, .ref lw, .int 40, .int 40, .int 0, .int 0, .ref wo, .ref he, .int 0, .int 0, .int 5, .ref sk, .ref na, .ref kp, .int 0, .int 0, .int 0, .int 0, .ref gb, .ref go, .ref fa, .ref ga, .int 0, .int 0, .ref vo])), (tp, .inl (G.2.1, 160, .inl (gPf tB 40))), (sr, .inl (G.2.1, 24, .inl (upd (upd (upd (upd (fun _ => 0) 0 0) 1 3) 2 4) 3 5)))] s.heap.size = A at hD ⊢
  have hA : ∀ q : Nat, s.heap.size ≤ q → A q := fun q h => by rw [← hAe]; exact Or.inr h
  have hS : va_S A s.heap s.heap [] := va_S.rf
  have hP : va_P G.1 vwCl [(h0, .inr (6, [.int 0, .ref kd, .ref mo, .ref st, .int 0, .ref ro, .ref tp, .int 0, .ref cd, .ref sr, .int 1, .int 0, .int 0, .ref ir, .ref ih, .ref ss, .ref sq, .ref ce, .ref lw, .int 40, .int 40, .int 0, .int 0, .ref wo, .ref he, .int 0, .int 0, .int 5, .ref sk, .ref na, .ref kp, .int 0, .int 0, .int 0, .int 0, .ref gb, .ref go, .ref fa, .ref ga, .int 0, .int 0, .ref vo])), (tp, .inl (G.2.1, 160, .inl (gPf tB 40))), (sr, .inl (G.2.1, 24, .inl (upd (upd (upd (upd (fun _ => 0) 0 0) 1 3) 2 4) 3 5)))] s.heap := hP
  have hD : va_D A [(h0, .inr (6, [.int 0, .ref kd, .ref mo, .ref st, .int 0, .ref ro, .ref tp, .int 0, .ref cd, .ref sr, .int 1, .int 0, .int 0, .ref ir, .ref ih, .ref ss, .ref sq, .ref ce, .ref lw, .int 40, .int 40, .int 0, .int 0, .ref wo, .ref he, .int 0, .int 0, .int 5, .ref sk, .ref na, .ref kp, .int 0, .int 0, .int 0, .int 0, .ref gb, .ref go, .ref fa, .ref ga, .int 0, .int 0, .ref vo])), (tp, .inl (G.2.1, 160, .inl (gPf tB 40))), (sr, .inl (G.2.1, 24, .inl (upd (upd (upd (upd (fun _ => 0) 0 0) 1 3) 2 4) 3 5)))] := hD
  have hl := lv_entry ([.ref h0]) (n := 3) (Nat.le_of_ble_eq_true rfl)
  rw [lg_entry_eq]
  generalize (lg_sl ([.ref h0]) ++ List.replicate (3 - (lg_sl ([.ref h0])).length) Slot.unset).toArray = ls at hl ⊢
  have hl : lv_has ls 3 [(0, .ref h0)] := hl
  have kf98 := hts (.fieldLink RX6 98 "PebbleInShoeModel" "texts" "I") (by decide +kernel)
  have hiX6 := (by decide +kernel : ∀ w ∈ wsX60, w ∈ wsX6_text)
  have kf111 := hts (.fieldLink RX6 111 "PebbleInShoeModel" "at" "I") (by decide +kernel)
  have kf127 := hts (.fieldLink RX6 127 "PebbleInShoeModel" "out" "I") (by decide +kernel)
  have kf117 := hts (.fieldLink RX6 117 "PebbleInShoeModel" "token" "I") (by decide +kernel)
  have kf28 := hts (.fieldLink RX6 28 "PebbleInShoeModel" "starts" "[I") (by decide +kernel)
  have kf80 := hts (.fieldLink RX6 80 "PebbleInShoeModel" "taped" "I") (by decide +kernel)
  have kf114 := hts (.fieldLink RX6 114 "PebbleInShoeModel" "begun" "I") (by decide +kernel)
  refine lv_aload_n hx hb dX6_text_0 rfl (lv_at hl 0 rfl) ?_
  refine va_get (D := G.1) (ci := 6) (v := .int 1) (C := RX6) (T := TX6) (N := 42) hx hb hts hiX6 hown hK hP 0 rfl rfl 10 (by decide) kf98 (fun _ h9 => h9) rfl dX6_text_1 ?_
  refine lv_bipush (v := 6) hx hb dX6_text_4 (by decide) ?_
  refine lv_icmp_ne (tgt := 12) hx hb dX6_text_6 (by decide) (fun c_1 => ?_) (fun c_1 => ?_)
  rotate_left
  · exact absurd c_1 (by decide)
  refine lv_aload_n hx hb dX6_text_12 rfl (lv_at hl 0 rfl) ?_
  refine lv_iconst (v := 0) hx hb dX6_text_13 (by decide) ?_
  refine va_put (D := G.1) (ci := 6) (v := .int 0) (ty := .int) (C := RX6) (T := TX6) (N := 42) hx hb hts hiX6 tyX6 tyX6_ok nmX6 hown hK hP hD hS 0 rfl rfl 19 (by decide) kf111 (fun _ h9 => h9) rfl (by decide +kernel) rfl rfl (Nat.le_of_ble_eq_true rfl) dX6_text_14 (fun H locs hP hD hS => ?_)
  have hP : va_P G.1 vwCl [(h0, .inr (6, [.int 0, .ref kd, .ref mo, .ref st, .int 0, .ref ro, .ref tp, .int 0, .ref cd, .ref sr, .int 1, .int 0, .int 0, .ref ir, .ref ih, .ref ss, .ref sq, .ref ce, .ref lw, .int 0, .int 40, .int 0, .int 0, .ref wo, .ref he, .int 0, .int 0, .int 5, .ref sk, .ref na, .ref kp, .int 0, .int 0, .int 0, .int 0, .ref gb, .ref go, .ref fa, .ref ga, .int 0, .int 0, .ref vo])), (tp, .inl (G.2.1, 160, .inl (gPf tB 40))), (sr, .inl (G.2.1, 24, .inl (upd (upd (upd (upd (fun _ => 0) 0 0) 1 3) 2 4) 3 5)))] H := hP
  have hD : va_D A [(h0, .inr (6, [.int 0, .ref kd, .ref mo, .ref st, .int 0, .ref ro, .ref tp, .int 0, .ref cd, .ref sr, .int 1, .int 0, .int 0, .ref ir, .ref ih, .ref ss, .ref sq, .ref ce, .ref lw, .int 0, .int 40, .int 0, .int 0, .ref wo, .ref he, .int 0, .int 0, .int 5, .ref sk, .ref na, .ref kp, .int 0, .int 0, .int 0, .int 0, .ref gb, .ref go, .ref fa, .ref ga, .int 0, .int 0, .ref vo])), (tp, .inl (G.2.1, 160, .inl (gPf tB 40))), (sr, .inl (G.2.1, 24, .inl (upd (upd (upd (upd (fun _ => 0) 0 0) 1 3) 2 4) 3 5)))] := hD
  refine lv_aload_n hx hb dX6_text_17 rfl (lv_at hl 0 rfl) ?_
  refine lv_iconst (v := 0) hx hb dX6_text_18 (by decide) ?_
  refine va_put (D := G.1) (ci := 6) (v := .int 0) (ty := .int) (C := RX6) (T := TX6) (N := 42) hx hb hts hiX6 tyX6 tyX6_ok nmX6 hown hK hP hD hS 0 rfl rfl 27 (by decide) kf127 (fun _ h9 => h9) rfl (by decide +kernel) rfl rfl (Nat.le_of_ble_eq_true rfl) dX6_text_19 (fun H locs hP hD hS => ?_)
  have hP : va_P G.1 vwCl [(h0, .inr (6, [.int 0, .ref kd, .ref mo, .ref st, .int 0, .ref ro, .ref tp, .int 0, .ref cd, .ref sr, .int 1, .int 0, .int 0, .ref ir, .ref ih, .ref ss, .ref sq, .ref ce, .ref lw, .int 0, .int 40, .int 0, .int 0, .ref wo, .ref he, .int 0, .int 0, .int 0, .ref sk, .ref na, .ref kp, .int 0, .int 0, .int 0, .int 0, .ref gb, .ref go, .ref fa, .ref ga, .int 0, .int 0, .ref vo])), (tp, .inl (G.2.1, 160, .inl (gPf tB 40))), (sr, .inl (G.2.1, 24, .inl (upd (upd (upd (upd (fun _ => 0) 0 0) 1 3) 2 4) 3 5)))] H := hP
  have hD : va_D A [(h0, .inr (6, [.int 0, .ref kd, .ref mo, .ref st, .int 0, .ref ro, .ref tp, .int 0, .ref cd, .ref sr, .int 1, .int 0, .int 0, .ref ir, .ref ih, .ref ss, .ref sq, .ref ce, .ref lw, .int 0, .int 40, .int 0, .int 0, .ref wo, .ref he, .int 0, .int 0, .int 0, .ref sk, .ref na, .ref kp, .int 0, .int 0, .int 0, .int 0, .ref gb, .ref go, .ref fa, .ref ga, .int 0, .int 0, .ref vo])), (tp, .inl (G.2.1, 160, .inl (gPf tB 40))), (sr, .inl (G.2.1, 24, .inl (upd (upd (upd (upd (fun _ => 0) 0 0) 1 3) 2 4) 3 5)))] := hD
  refine lv_iconst (v := 1) hx hb dX6_text_22 (by decide) ?_
  refine lv_istore_n (lv' := [(1, .int 1), (0, .ref h0)]) hx hb dX6_text_23 rfl hl (by decide) rfl (fun ls hl => ?_)
  refine lv_iconst (v := 0) hx hb dX6_text_24 (by decide) ?_
  refine lv_istore_n (lv' := [(2, .int 0), (1, .int 1), (0, .ref h0)]) hx hb dX6_text_25 rfl hl (by decide) rfl (fun ls hl => ?_)
  refine lv_iload_n hx hb dX6_text_26 rfl (lv_at hl 0 rfl) ?_
  refine lv_iconst (v := 3) hx hb dX6_text_27 (by decide) ?_
  refine lv_icmp_ge (tgt := 101) hx hb dX6_text_28 (by decide) (fun c_2 => ?_) (fun c_2 => ?_)
  · exact absurd c_2 (by decide)
  refine lv_iload_n hx hb dX6_text_31 rfl (lv_at hl 1 rfl) ?_
  refine lv_if_eq (tgt := 101) hx hb dX6_text_32 (by decide) (fun c_3 => ?_) (fun c_3 => ?_)
  · exact absurd c_3 (by decide)
  refine lv_aload_n hx hb dX6_text_35 rfl (lv_at hl 2 rfl) ?_
  have hPc : va_P G.1 vwCl [(h0, .inr (6, [.int 0, .ref kd, .ref mo, .ref st, .int 0, .ref ro, .ref tp, .int 0, .ref cd, .ref sr, .int 1, .int 0, .int 0, .ref ir, .ref ih, .ref ss, .ref sq, .ref ce, .ref lw, .int 0, .int 40, .int 0, .int 0, .ref wo, .ref he, .int 0, .int 0, .int 0, .ref sk, .ref na, .ref kp, .int 0, .int 0, .int 0, .int 0, .ref gb, .ref go, .ref fa, .ref ga, .int 0, .int 0, .ref vo]))] H := hP.sub [0] rfl
  have hDc : va_D A [(h0, .inr (6, [.int 0, .ref kd, .ref mo, .ref st, .int 0, .ref ro, .ref tp, .int 0, .ref cd, .ref sr, .int 1, .int 0, .int 0, .ref ir, .ref ih, .ref ss, .ref sq, .ref ce, .ref lw, .int 0, .int 40, .int 0, .int 0, .ref wo, .ref he, .int 0, .int 0, .int 0, .ref sk, .ref na, .ref kp, .int 0, .int 0, .int 0, .int 0, .ref gb, .ref go, .ref fa, .ref ga, .int 0, .int 0, .ref vo]))] := hD.sub [0] (by decide) rfl
  have hFc := va_free (wc := [(h0, .inr (6, [.int 0, .ref kd, .ref mo, .ref st, .int 0, .ref ro, .ref tp, .int 0, .ref cd, .ref sr, .int 1, .int 0, .int 0, .ref ir, .ref ih, .ref ss, .ref sq, .ref ce, .ref lw, .int 0, .int 40, .int 0, .int 0, .ref wo, .ref he, .int 0, .int 0, .int 0, .ref sk, .ref na, .ref kp, .int 0, .int 0, .int 0, .int 0, .ref gb, .ref go, .ref fa, .ref ga, .int 0, .int 0, .ref vo]))]) hD hS hA [0] rfl
  refine va_callv (va_runV (As := []) (rest := []) ⟨hx, hb, hml, hown, hts⟩ (c_X6_next_z63 l G h0 kd mo st ro tp cd sr ir ih ss sq ce lw wo he sk na kp gb go fa ga vo H.size) (cwV 0 hts gX6_text_X6_next rfl rfl rfl (by decide +kernel) ⟨Nat.le_of_ble_eq_true rfl, Nat.le_of_ble_eq_true rfl⟩) ⟨gPre_blind, va_recv hK hPc (ci := 6) (q0 := 0) rfl rfl, fun U hU hW => gPre_of hU hW hK hPc hDc⟩ rfl rfl hl.1 rfl (lv_room (Nat.le_of_ble_eq_true rfl)) dX6_text_36 ⟨Nat.le_of_ble_eq_true rfl, Nat.le_of_ble_eq_true rfl⟩) hS (fun q _ h => hFc q h) hFc (fun u t H locs ht hvm w_5 hB hz1 hk1 hS => ?_)
  obtain ⟨hP1, hK1, hD1⟩ := hB
  rw [ht] at hP1
  have hP1 : va_P G.1 vwCl [(h0, .inr (6, [.int 0, .ref kd, .ref mo, .ref st, .int 0, .ref ro, .ref tp, .int 0, .ref cd, .ref sr, .int 1, .int 0, .int 0, .ref ir, .ref ih, .ref ss, .ref sq, .ref ce, .ref lw, .int 0, .int 0, .int 0, .int 0, .ref wo, .ref he, .int 0, .int 0, .int 0, .ref sk, .ref na, .ref kp, .int 0, .int 0, .int 0, .int 0, .ref gb, .ref go, .ref fa, .ref ga, .int 0, .int 0, .ref vo]))] H := hP1
  have hD1 : va_D (va_A [(h0, .inr (6, [.int 0, .ref kd, .ref mo, .ref st, .int 0, .ref ro, .ref tp, .int 0, .ref cd, .ref sr, .int 1, .int 0, .int 0, .ref ir, .ref ih, .ref ss, .ref sq, .ref ce, .ref lw, .int 0, .int 40, .int 0, .int 0, .ref wo, .ref he, .int 0, .int 0, .int 0, .ref sk, .ref na, .ref kp, .int 0, .int 0, .int 0, .int 0, .ref gb, .ref go, .ref fa, .ref ga, .int 0, .int 0, .ref vo]))] _) [(h0, .inr (6, [.int 0, .ref kd, .ref mo, .ref st, .int 0, .ref ro, .ref tp, .int 0, .ref cd, .ref sr, .int 1, .int 0, .int 0, .ref ir, .ref ih, .ref ss, .ref sq, .ref ce, .ref lw, .int 0, .int 0, .int 0, .int 0, .ref wo, .ref he, .int 0, .int 0, .int 0, .ref sk, .ref na, .ref kp, .int 0, .int 0, .int 0, .int 0, .ref gb, .ref go, .ref fa, .ref ga, .int 0, .int 0, .ref vo]))] := hD1
  obtain ⟨hP, hD⟩ := va_join (wr := [(tp, .inl (G.2.1, 160, .inl (gPf tB 40))), (sr, .inl (G.2.1, 24, .inl (upd (upd (upd (upd (fun _ => 0) 0 0) 1 3) 2 4) 3 5)))]) (w1 := [(h0, .inr (6, [.int 0, .ref kd, .ref mo, .ref st, .int 0, .ref ro, .ref tp, .int 0, .ref cd, .ref sr, .int 1, .int 0, .int 0, .ref ir, .ref ih, .ref ss, .ref sq, .ref ce, .ref lw, .int 0, .int 0, .int 0, .int 0, .ref wo, .ref he, .int 0, .int 0, .int 0, .ref sk, .ref na, .ref kp, .int 0, .int 0, .int 0, .int 0, .ref gb, .ref go, .ref fa, .ref ga, .int 0, .int 0, .ref vo]))]) hP hD [0] [1, 2] rfl rfl (by decide) (by decide) hk1 hFc hP1 hD1
  have hP : va_P G.1 vwCl [(tp, .inl (G.2.1, 160, .inl (gPf tB 40))), (sr, .inl (G.2.1, 24, .inl (upd (upd (upd (upd (fun _ => 0) 0 0) 1 3) 2 4) 3 5))), (h0, .inr (6, [.int 0, .ref kd, .ref mo, .ref st, .int 0, .ref ro, .ref tp, .int 0, .ref cd, .ref sr, .int 1, .int 0, .int 0, .ref ir, .ref ih, .ref ss, .ref sq, .ref ce, .ref lw, .int 0, .int 0, .int 0, .int 0, .ref wo, .ref he, .int 0, .int 0, .int 0, .ref sk, .ref na, .ref kp, .int 0, .int 0, .int 0, .int 0, .ref gb, .ref go, .ref fa, .ref ga, .int 0, .int 0, .ref vo]))] H := hP
  have hD : va_D A [(tp, .inl (G.2.1, 160, .inl (gPf tB 40))), (sr, .inl (G.2.1, 24, .inl (upd (upd (upd (upd (fun _ => 0) 0 0) 1 3) 2 4) 3 5))), (h0, .inr (6, [.int 0, .ref kd, .ref mo, .ref st, .int 0, .ref ro, .ref tp, .int 0, .ref cd, .ref sr, .int 1, .int 0, .int 0, .ref ir, .ref ih, .ref ss, .ref sq, .ref ce, .ref lw, .int 0, .int 0, .int 0, .int 0, .ref wo, .ref he, .int 0, .int 0, .int 0, .ref sk, .ref na, .ref kp, .int 0, .int 0, .int 0, .int 0, .ref gb, .ref go, .ref fa, .ref ga, .int 0, .int 0, .ref vo]))] := hD
  refine lv_aload_n hx hb dX6_text_39 rfl (lv_at hl 2 rfl) ?_
  refine va_get (D := G.1) (ci := 6) (v := .int 0) (C := RX6) (T := TX6) (N := 42) hx hb hts hiX6 hown hK hP 2 rfl rfl 21 (by decide) kf117 (fun _ h9 => h9) rfl dX6_text_40 ?_
  refine lv_iconst (v := 3) hx hb dX6_text_43 (by decide) ?_
  refine lv_icmp_ne (tgt := 59) hx hb dX6_text_44 (by decide) (fun c_6 => ?_) (fun c_6 => ?_)
  rotate_left
  · exact absurd c_6 (by decide)
  refine lv_iconst (v := 0) hx hb dX6_text_59 (by decide) ?_
  refine lv_istore_n (lv' := [(1, .int 0), (2, .int 0), (0, .ref h0)]) hx hb dX6_text_60 rfl hl (by decide) rfl (fun ls hl => ?_)
  refine lv_aload_n hx hb dX6_text_61 rfl (lv_at hl 2 rfl) ?_
  refine va_get (D := G.1) (ci := 6) (v := .ref sr) (C := RX6) (T := TX6) (N := 42) hx hb hts hiX6 hown hK hP 2 rfl rfl 9 (by decide) kf28 (fun _ h9 => h9) rfl dX6_text_62 ?_
  refine lv_iconst (v := 4) hx hb dX6_text_65 (by decide) ?_
  refine lv_aload_n hx hb dX6_text_66 rfl (lv_at hl 2 rfl) ?_
  refine va_get (D := G.1) (ci := 6) (v := .int 1) (C := RX6) (T := TX6) (N := 42) hx hb hts hiX6 hown hK hP 2 rfl rfl 10 (by decide) kf98 (fun _ h9 => h9) rfl dX6_text_67 ?_
  refine lv_imul hx hb dX6_text_70 ?_
  refine lv_topi (fun v_7 ev_7 => ?_)
  have ev_7 : v_7 = 4 := ev_7.trans (by decide)
  subst ev_7
  refine lv_iload_n hx hb dX6_text_71 rfl (lv_at hl 1 rfl) ?_
  refine lv_iadd hx hb dX6_text_72 ?_
  refine lv_topi (fun v_8 ev_8 => ?_)
  have ev_8 : v_8 = 4 := ev_8.trans (by decide)
  subst ev_8
  refine lv_aload_n hx hb dX6_text_73 rfl (lv_at hl 2 rfl) ?_
  refine va_get (D := G.1) (ci := 6) (v := .int 0) (C := RX6) (T := TX6) (N := 42) hx hb hts hiX6 hown hK hP 2 rfl rfl 27 (by decide) kf127 (fun _ h9 => h9) rfl dX6_text_74 ?_
  refine va_iast (D := G.1) hx hb hK hP hD hS 1 0 rfl rfl (i := 4) (x := 0) (gIn (by decide)) dX6_text_77 (fun H locs hP hD hS => ?_)
  have hP : va_P G.1 vwCl [(tp, .inl (G.2.1, 160, .inl (gPf tB 40))), (sr, .inl (G.2.1, 24, .inl (upd (upd (upd (upd (upd (fun _ => 0) 0 0) 1 3) 2 4) 3 5) 4 0))), (h0, .inr (6, [.int 0, .ref kd, .ref mo, .ref st, .int 0, .ref ro, .ref tp, .int 0, .ref cd, .ref sr, .int 1, .int 0, .int 0, .ref ir, .ref ih, .ref ss, .ref sq, .ref ce, .ref lw, .int 0, .int 0, .int 0, .int 0, .ref wo, .ref he, .int 0, .int 0, .int 0, .ref sk, .ref na, .ref kp, .int 0, .int 0, .int 0, .int 0, .ref gb, .ref go, .ref fa, .ref ga, .int 0, .int 0, .ref vo]))] H := hP
  have hD : va_D A [(tp, .inl (G.2.1, 160, .inl (gPf tB 40))), (sr, .inl (G.2.1, 24, .inl (upd (upd (upd (upd (upd (fun _ => 0) 0 0) 1 3) 2 4) 3 5) 4 0))), (h0, .inr (6, [.int 0, .ref kd, .ref mo, .ref st, .int 0, .ref ro, .ref tp, .int 0, .ref cd, .ref sr, .int 1, .int 0, .int 0, .ref ir, .ref ih, .ref ss, .ref sq, .ref ce, .ref lw, .int 0, .int 0, .int 0, .int 0, .ref wo, .ref he, .int 0, .int 0, .int 0, .ref sk, .ref na, .ref kp, .int 0, .int 0, .int 0, .int 0, .ref gb, .ref go, .ref fa, .ref ga, .int 0, .int 0, .ref vo]))] := hD
  refine lv_iload_n hx hb dX6_text_78 rfl (lv_at hl 0 rfl) ?_
  refine lv_if_eq (tgt := 93) hx hb dX6_text_79 (by decide) (fun c_9 => ?_) (fun c_9 => ?_)
  rotate_left
  · exact absurd (by decide) c_9
  refine lv_iconst (v := 0) hx hb dX6_text_93 (by decide) ?_
  refine lv_istore_n (lv' := [(1, .int 0), (2, .int 0), (0, .ref h0)]) hx hb dX6_text_94 rfl hl (by decide) rfl (fun ls hl => ?_)
  refine lv_iinc (v := 1) (lv' := [(2, .int 1), (1, .int 0), (0, .ref h0)]) hx hb dX6_text_95 hl (k := 1) rfl (by decide) (by decide) rfl (fun ls hl => ?_)
  refine lv_goto (tgt := 26) hx hb dX6_text_98 (by decide) ?_
  refine lv_iload_n hx hb dX6_text_26 rfl (lv_at hl 0 rfl) ?_
  refine lv_iconst (v := 3) hx hb dX6_text_27 (by decide) ?_
  refine lv_icmp_ge (tgt := 101) hx hb dX6_text_28 (by decide) (fun c_10 => ?_) (fun c_10 => ?_)
  · exact absurd c_10 (by decide)
  refine lv_iload_n hx hb dX6_text_31 rfl (lv_at hl 1 rfl) ?_
  refine lv_if_eq (tgt := 101) hx hb dX6_text_32 (by decide) (fun c_11 => ?_) (fun c_11 => ?_)
  rotate_left
  · exact absurd (by decide) c_11
  refine lv_iload_n hx hb dX6_text_101 rfl (lv_at hl 1 rfl) ?_
  refine lv_if_eq (tgt := 122) hx hb dX6_text_102 (by decide) (fun c_12 => ?_) (fun c_12 => ?_)
  rotate_left
  · exact absurd (by decide) c_12
  refine lv_aload_n hx hb dX6_text_122 rfl (lv_at hl 2 rfl) ?_
  refine va_get (D := G.1) (ci := 6) (v := .ref sr) (C := RX6) (T := TX6) (N := 42) hx hb hts hiX6 hown hK hP 2 rfl rfl 9 (by decide) kf28 (fun _ h9 => h9) rfl dX6_text_123 ?_
  refine lv_iconst (v := 4) hx hb dX6_text_126 (by decide) ?_
  refine lv_aload_n hx hb dX6_text_127 rfl (lv_at hl 2 rfl) ?_
  refine va_get (D := G.1) (ci := 6) (v := .int 1) (C := RX6) (T := TX6) (N := 42) hx hb hts hiX6 hown hK hP 2 rfl rfl 10 (by decide) kf98 (fun _ h9 => h9) rfl dX6_text_128 ?_
  refine lv_imul hx hb dX6_text_131 ?_
  refine lv_topi (fun v_13 ev_13 => ?_)
  have ev_13 : v_13 = 4 := ev_13.trans (by decide)
  subst ev_13
  refine lv_iconst (v := 3) hx hb dX6_text_132 (by decide) ?_
  refine lv_iadd hx hb dX6_text_133 ?_
  refine lv_topi (fun v_14 ev_14 => ?_)
  have ev_14 : v_14 = 7 := ev_14.trans (by decide)
  subst ev_14
  refine lv_aload_n hx hb dX6_text_134 rfl (lv_at hl 2 rfl) ?_
  refine va_get (D := G.1) (ci := 6) (v := .int 0) (C := RX6) (T := TX6) (N := 42) hx hb hts hiX6 hown hK hP 2 rfl rfl 27 (by decide) kf127 (fun _ h9 => h9) rfl dX6_text_135 ?_
  refine va_iast (D := G.1) hx hb hK hP hD hS 1 0 rfl rfl (i := 7) (x := 0) (gIn (by decide)) dX6_text_138 (fun H locs hP hD hS => ?_)
  have hP : va_P G.1 vwCl [(tp, .inl (G.2.1, 160, .inl (gPf tB 40))), (sr, .inl (G.2.1, 24, .inl (upd (upd (upd (upd (upd (upd (fun _ => 0) 0 0) 1 3) 2 4) 3 5) 4 0) 7 0))), (h0, .inr (6, [.int 0, .ref kd, .ref mo, .ref st, .int 0, .ref ro, .ref tp, .int 0, .ref cd, .ref sr, .int 1, .int 0, .int 0, .ref ir, .ref ih, .ref ss, .ref sq, .ref ce, .ref lw, .int 0, .int 0, .int 0, .int 0, .ref wo, .ref he, .int 0, .int 0, .int 0, .ref sk, .ref na, .ref kp, .int 0, .int 0, .int 0, .int 0, .ref gb, .ref go, .ref fa, .ref ga, .int 0, .int 0, .ref vo]))] H := hP
  have hD : va_D A [(tp, .inl (G.2.1, 160, .inl (gPf tB 40))), (sr, .inl (G.2.1, 24, .inl (upd (upd (upd (upd (upd (upd (fun _ => 0) 0 0) 1 3) 2 4) 3 5) 4 0) 7 0))), (h0, .inr (6, [.int 0, .ref kd, .ref mo, .ref st, .int 0, .ref ro, .ref tp, .int 0, .ref cd, .ref sr, .int 1, .int 0, .int 0, .ref ir, .ref ih, .ref ss, .ref sq, .ref ce, .ref lw, .int 0, .int 0, .int 0, .int 0, .ref wo, .ref he, .int 0, .int 0, .int 0, .ref sk, .ref na, .ref kp, .int 0, .int 0, .int 0, .int 0, .ref gb, .ref go, .ref fa, .ref ga, .int 0, .int 0, .ref vo]))] := hD
  refine lv_aload_n hx hb dX6_text_139 rfl (lv_at hl 2 rfl) ?_
  refine lv_iconst (v := 0) hx hb dX6_text_140 (by decide) ?_
  refine va_put (D := G.1) (ci := 6) (v := .int 0) (ty := .int) (C := RX6) (T := TX6) (N := 42) hx hb hts hiX6 tyX6 tyX6_ok nmX6 hown hK hP hD hS 2 rfl rfl 7 (by decide) kf80 (fun _ h9 => h9) rfl (by decide +kernel) rfl rfl (Nat.le_of_ble_eq_true rfl) dX6_text_141 (fun H locs hP hD hS => ?_)
  have hP : va_P G.1 vwCl [(tp, .inl (G.2.1, 160, .inl (gPf tB 40))), (sr, .inl (G.2.1, 24, .inl (upd (upd (upd (upd (upd (upd (fun _ => 0) 0 0) 1 3) 2 4) 3 5) 4 0) 7 0))), (h0, .inr (6, [.int 0, .ref kd, .ref mo, .ref st, .int 0, .ref ro, .ref tp, .int 0, .ref cd, .ref sr, .int 1, .int 0, .int 0, .ref ir, .ref ih, .ref ss, .ref sq, .ref ce, .ref lw, .int 0, .int 0, .int 0, .int 0, .ref wo, .ref he, .int 0, .int 0, .int 0, .ref sk, .ref na, .ref kp, .int 0, .int 0, .int 0, .int 0, .ref gb, .ref go, .ref fa, .ref ga, .int 0, .int 0, .ref vo]))] H := hP
  have hD : va_D A [(tp, .inl (G.2.1, 160, .inl (gPf tB 40))), (sr, .inl (G.2.1, 24, .inl (upd (upd (upd (upd (upd (upd (fun _ => 0) 0 0) 1 3) 2 4) 3 5) 4 0) 7 0))), (h0, .inr (6, [.int 0, .ref kd, .ref mo, .ref st, .int 0, .ref ro, .ref tp, .int 0, .ref cd, .ref sr, .int 1, .int 0, .int 0, .ref ir, .ref ih, .ref ss, .ref sq, .ref ce, .ref lw, .int 0, .int 0, .int 0, .int 0, .ref wo, .ref he, .int 0, .int 0, .int 0, .ref sk, .ref na, .ref kp, .int 0, .int 0, .int 0, .int 0, .ref gb, .ref go, .ref fa, .ref ga, .int 0, .int 0, .ref vo]))] := hD
  refine lv_iload_n hx hb dX6_text_144 rfl (lv_at hl 1 rfl) ?_
  refine lv_if_ne (tgt := 156) hx hb dX6_text_145 (by decide) (fun c_15 => ?_) (fun c_15 => ?_)
  · exact absurd (by decide) c_15
  refine lv_bipush (v := -100) hx hb dX6_text_148 (by decide) ?_
  refine lv_aload_n hx hb dX6_text_150 rfl (lv_at hl 2 rfl) ?_
  refine va_get (D := G.1) (ci := 6) (v := .int 0) (C := RX6) (T := TX6) (N := 42) hx hb hts hiX6 hown hK hP 2 rfl rfl 20 (by decide) kf114 (fun _ h9 => h9) rfl dX6_text_151 ?_
  refine lv_isub hx hb dX6_text_154 ?_
  refine lv_topi (fun v_16 ev_16 => ?_)
  have ev_16 : v_16 = -100 := ev_16.trans (by decide)
  subst ev_16
  have hpost : (fun (r : Int32) (u : Unit) => match u with | _ => r = -100) (-100) () := by first | rfl | trivial
  exact W.iret (v := (-100)) hx hb hr (fun t ht hW => ⟨⟨(-100), (), rfl, hpost, trivial⟩, hS.F ht⟩) hS.2.2 dX6_text_155
theorem pp_X6_count_0_1 (v0 : Int32) (s_1 : v0 = 0) : (0 : Int32) = (if v0 = 2 then 1 else if v0 = 0 ∨ v0 = 1 ∨ v0 = 3 ∨ v0 = 4 then 0 else -2) := by
  first
    | rfl
    | exact bz_pos (by (first | omega | (simp only [Int32.lt_iff_toInt_lt, Int32.le_iff_toInt_le, ← Int32.toInt_inj, Int32.reduceToInt] at * <;> omega)))
    | exact bz_neg (by (first | omega | (simp only [Int32.lt_iff_toInt_lt, Int32.le_iff_toInt_le, ← Int32.toInt_inj, Int32.reduceToInt] at * <;> omega)))
    | ((repeat' split) <;> first | rfl | assumption | (symm; assumption) | (exfalso; (first | omega | (simp only [Int32.lt_iff_toInt_lt, Int32.le_iff_toInt_le, ← Int32.toInt_inj, Int32.reduceToInt] at * <;> omega))))
theorem pp_X6_count_0_2 (v0 : Int32) (s_1 : ¬ (v0 = 0)) (s_2 : v0 = 1) : (0 : Int32) = (if v0 = 2 then 1 else if v0 = 0 ∨ v0 = 1 ∨ v0 = 3 ∨ v0 = 4 then 0 else -2) := by
  first
    | rfl
    | exact bz_pos (by (first | omega | (simp only [Int32.lt_iff_toInt_lt, Int32.le_iff_toInt_le, ← Int32.toInt_inj, Int32.reduceToInt] at * <;> omega)))
    | exact bz_neg (by (first | omega | (simp only [Int32.lt_iff_toInt_lt, Int32.le_iff_toInt_le, ← Int32.toInt_inj, Int32.reduceToInt] at * <;> omega)))
    | ((repeat' split) <;> first | rfl | assumption | (symm; assumption) | (exfalso; (first | omega | (simp only [Int32.lt_iff_toInt_lt, Int32.le_iff_toInt_le, ← Int32.toInt_inj, Int32.reduceToInt] at * <;> omega))))
theorem pp_X6_count_0_3 (v0 : Int32) (s_1 : ¬ (v0 = 0)) (s_2 : ¬ (v0 = 1)) (s_3 : v0 = 2) : (1 : Int32) = (if v0 = 2 then 1 else if v0 = 0 ∨ v0 = 1 ∨ v0 = 3 ∨ v0 = 4 then 0 else -2) := by
  first
    | rfl
    | exact bz_pos (by (first | omega | (simp only [Int32.lt_iff_toInt_lt, Int32.le_iff_toInt_le, ← Int32.toInt_inj, Int32.reduceToInt] at * <;> omega)))
    | exact bz_neg (by (first | omega | (simp only [Int32.lt_iff_toInt_lt, Int32.le_iff_toInt_le, ← Int32.toInt_inj, Int32.reduceToInt] at * <;> omega)))
    | ((repeat' split) <;> first | rfl | assumption | (symm; assumption) | (exfalso; (first | omega | (simp only [Int32.lt_iff_toInt_lt, Int32.le_iff_toInt_le, ← Int32.toInt_inj, Int32.reduceToInt] at * <;> omega))))
theorem pp_X6_count_0_4 (v0 : Int32) (s_1 : ¬ (v0 = 0)) (s_2 : ¬ (v0 = 1)) (s_3 : ¬ (v0 = 2)) (s_4 : v0 = 3) : (0 : Int32) = (if v0 = 2 then 1 else if v0 = 0 ∨ v0 = 1 ∨ v0 = 3 ∨ v0 = 4 then 0 else -2) := by
  first
    | rfl
    | exact bz_pos (by (first | omega | (simp only [Int32.lt_iff_toInt_lt, Int32.le_iff_toInt_le, ← Int32.toInt_inj, Int32.reduceToInt] at * <;> omega)))
    | exact bz_neg (by (first | omega | (simp only [Int32.lt_iff_toInt_lt, Int32.le_iff_toInt_le, ← Int32.toInt_inj, Int32.reduceToInt] at * <;> omega)))
    | ((repeat' split) <;> first | rfl | assumption | (symm; assumption) | (exfalso; (first | omega | (simp only [Int32.lt_iff_toInt_lt, Int32.le_iff_toInt_le, ← Int32.toInt_inj, Int32.reduceToInt] at * <;> omega))))
theorem pp_X6_count_0_5 (v0 : Int32) (s_1 : ¬ (v0 = 0)) (s_2 : ¬ (v0 = 1)) (s_3 : ¬ (v0 = 2)) (s_4 : ¬ (v0 = 3)) (s_5 : v0 = 4) : (0 : Int32) = (if v0 = 2 then 1 else if v0 = 0 ∨ v0 = 1 ∨ v0 = 3 ∨ v0 = 4 then 0 else -2) := by
  first
    | rfl
    | exact bz_pos (by (first | omega | (simp only [Int32.lt_iff_toInt_lt, Int32.le_iff_toInt_le, ← Int32.toInt_inj, Int32.reduceToInt] at * <;> omega)))
    | exact bz_neg (by (first | omega | (simp only [Int32.lt_iff_toInt_lt, Int32.le_iff_toInt_le, ← Int32.toInt_inj, Int32.reduceToInt] at * <;> omega)))
    | ((repeat' split) <;> first | rfl | assumption | (symm; assumption) | (exfalso; (first | omega | (simp only [Int32.lt_iff_toInt_lt, Int32.le_iff_toInt_le, ← Int32.toInt_inj, Int32.reduceToInt] at * <;> omega))))
theorem pp_X6_count_0_6 (v0 : Int32) (s_1 : ¬ (v0 = 0)) (s_2 : ¬ (v0 = 1)) (s_3 : ¬ (v0 = 2)) (s_4 : ¬ (v0 = 3)) (s_5 : ¬ (v0 = 4)) : ((-2) : Int32) = (if v0 = 2 then 1 else if v0 = 0 ∨ v0 = 1 ∨ v0 = 3 ∨ v0 = 4 then 0 else -2) := by
  first
    | rfl
    | exact bz_pos (by (first | omega | (simp only [Int32.lt_iff_toInt_lt, Int32.le_iff_toInt_le, ← Int32.toInt_inj, Int32.reduceToInt] at * <;> omega)))
    | exact bz_neg (by (first | omega | (simp only [Int32.lt_iff_toInt_lt, Int32.le_iff_toInt_le, ← Int32.toInt_inj, Int32.reduceToInt] at * <;> omega)))
    | ((repeat' split) <;> first | rfl | assumption | (symm; assumption) | (exfalso; (first | omega | (simp only [Int32.lt_iff_toInt_lt, Int32.le_iff_toInt_le, ← Int32.toInt_inj, Int32.reduceToInt] at * <;> omega))))
abbrev q_X6_count_0 (G : gG) (h0 kd mo st ro tp cd sr ir ih ss sq ce lw wo he sk na kp gb go fa ga vo : Nat) (v0 : Int32) (A : Nat → Prop) : Array Value → State → Outcome → State → Prop := va_Qi (fun (r : Int32) (u : Unit) => match u with | _ => r = (if v0 = 2 then 1 else if v0 = 0 ∨ v0 = 1 ∨ v0 = 3 ∨ v0 = 4 then 0 else -2)) (fun (u : Unit) t => match u with | _ => True) A
set_option maxHeartbeats 4000000 in
set_option maxRecDepth 100000 in
theorem c_X6_count_0 (l : Launch) (G : gG) (h0 kd mo st ro tp cd sr ir ih ss sq ce lw wo he sk na kp gb go fa ga vo : Nat) (v0 : Int32) (sz : Nat) : Met l yX6_count wsX6_count ({ frames := 0, cells := 0, slots := 0, locals := 0 }) (gPre G [.ref h0, .int v0] [(h0, .inr (6, [.int 0, .ref kd, .ref mo, .ref st, .int 0, .ref ro, .ref tp, .int 0, .ref cd, .ref sr, .int 1, .int 0, .int 0, .ref ir, .ref ih, .ref ss, .ref sq, .ref ce, .ref lw, .int 40, .int 40, .int 0, .int 0, .ref wo, .ref he, .int 0, .int 0, .int 5, .ref sk, .ref na, .ref kp, .int 0, .int 0, .int 0, .int 0, .ref gb, .ref go, .ref fa, .ref ga, .int 0, .int 0, .ref vo]))] sz) (q_X6_count_0 G h0 kd mo st ro tp cd sr ir ih ss sq ce lw wo he sk na kp gb go fa ga vo v0 (va_A [(h0, .inr (6, [.int 0, .ref kd, .ref mo, .ref st, .int 0, .ref ro, .ref tp, .int 0, .ref cd, .ref sr, .int 1, .int 0, .int 0, .ref ir, .ref ih, .ref ss, .ref sq, .ref ce, .ref lw, .int 40, .int 40, .int 0, .int 0, .ref wo, .ref he, .int 0, .int 0, .int 5, .ref sk, .ref na, .ref kp, .int 0, .int 0, .int 0, .int 0, .ref gb, .ref go, .ref fa, .ref ga, .int 0, .int 0, .ref vo]))] sz)) 0 0 (va_A [(h0, .inr (6, [.int 0, .ref kd, .ref mo, .ref st, .int 0, .ref ro, .ref tp, .int 0, .ref cd, .ref sr, .int 1, .int 0, .int 0, .ref ir, .ref ih, .ref ss, .ref sq, .ref ce, .ref lw, .int 40, .int 40, .int 0, .int 0, .ref wo, .ref he, .int 0, .int 0, .int 5, .ref sk, .ref na, .ref kp, .int 0, .int 0, .int 0, .int 0, .ref gb, .ref go, .ref fa, .ref ga, .int 0, .int 0, .ref vo]))] sz) := by
  refine Met.ofW (cc := cX6_count) (maxL := 2) (ret := (some .int)) (by decide) rfl ?_
  intro p e s m args below meth c s₁ B hml hv
  obtain ⟨rfl, hsz, hP, hK, hD0⟩ := hv
  have hx := B.exec
  have hb := B.bytes
  have hr := B.returns
  have hts := atoms_spec (ws := wsX6_count) B.pre
  have hown : s.vm.findClass RX6 = some m.cls := findClass_of_methodNamed B.named
  have hlocks := B.notSynchronized
  subst hsz
  have hD := hD0.self (sz := s.heap.size)
  generalize hAe : va_A [(h0, .inr (6, [.int 0, .ref kd, .ref mo, .ref st, .int 0, .ref ro, .ref tp, .int 0, .ref cd, .ref sr, .int 1, .int 0, .int 0, .ref ir, .ref ih, .ref ss, .ref sq, .ref ce, .ref lw, .int 40, .int 40, .int 0, .int 0, .ref wo, .ref he, .int 0, .int 0, .int 5, .ref sk, .ref na, .ref kp, .int 0, .int 0, .int 0, .int 0, .ref gb, .ref go, .ref fa, .ref ga, .int 0, .int 0, .ref vo]))] s.heap.size = A at hD ⊢
  have hA : ∀ q : Nat, s.heap.size ≤ q → A q := fun q h => by rw [← hAe]; exact Or.inr h
  have hS : va_S A s.heap s.heap [] := va_S.rf
  have hP : va_P G.1 vwCl [(h0, .inr (6, [.int 0, .ref kd, .ref mo, .ref st, .int 0, .ref ro, .ref tp, .int 0, .ref cd, .ref sr, .int 1, .int 0, .int 0, .ref ir, .ref ih, .ref ss, .ref sq, .ref ce, .ref lw, .int 40, .int 40, .int 0, .int 0, .ref wo, .ref he, .int 0, .int 0, .int 5, .ref sk, .ref na, .ref kp, .int 0, .int 0, .int 0, .int 0, .ref gb, .ref go, .ref fa, .ref ga, .int 0, .int 0, .ref vo]))] s.heap := hP
  have hD : va_D A [(h0, .inr (6, [.int 0, .ref kd, .ref mo, .ref st, .int 0, .ref ro, .ref tp, .int 0, .ref cd, .ref sr, .int 1, .int 0, .int 0, .ref ir, .ref ih, .ref ss, .ref sq, .ref ce, .ref lw, .int 40, .int 40, .int 0, .int 0, .ref wo, .ref he, .int 0, .int 0, .int 5, .ref sk, .ref na, .ref kp, .int 0, .int 0, .int 0, .int 0, .ref gb, .ref go, .ref fa, .ref ga, .int 0, .int 0, .ref vo]))] := hD
  have hl := lv_entry ([.ref h0, .int v0]) (n := 2) (Nat.le_of_ble_eq_true rfl)
  rw [lg_entry_eq]
  generalize (lg_sl ([.ref h0, .int v0]) ++ List.replicate (2 - (lg_sl ([.ref h0, .int v0])).length) Slot.unset).toArray = ls at hl ⊢
  have hl : lv_has ls 2 [(0, .ref h0), (1, .int v0)] := hl
  have kf88 := hts (.fieldLink RX6 88 "PebbleInShoeModel" "pebbles" "I") (by decide +kernel)
  have hiX6 := (by decide +kernel : ∀ w ∈ wsX60, w ∈ wsX6_count)
  have kf95 := hts (.fieldLink RX6 95 "PebbleInShoeModel" "judges" "I") (by decide +kernel)
  have kf98 := hts (.fieldLink RX6 98 "PebbleInShoeModel" "texts" "I") (by decide +kernel)
  have kf101 := hts (.fieldLink RX6 101 "PebbleInShoeModel" "rule" "I") (by decide +kernel)
  have kf80 := hts (.fieldLink RX6 80 "PebbleInShoeModel" "taped" "I") (by decide +kernel)
  refine lv_iload_n hx hb dX6_count_0 rfl (lv_at hl 1 rfl) ?_
  by_cases s_1 : v0 = 0
  · skip
    refine lv_tableIn (off := 35) (tgt := 36) hx hb dX6_count_1 (by rw [s_1]; decide) (by rw [s_1]; decide) (by rw [s_1]; decide) (by decide) ?_
    refine lv_aload_n hx hb dX6_count_36 rfl (lv_at hl 0 rfl) ?_
    refine va_get (D := G.1) (ci := 6) (v := .int 0) (C := RX6) (T := TX6) (N := 42) hx hb hts hiX6 hown hK hP 0 rfl rfl 0 (by decide) kf88 (fun _ h9 => h9) rfl dX6_count_37 ?_
    have hpost : (fun (r : Int32) (u : Unit) => match u with | _ => r = (if v0 = 2 then 1 else if v0 = 0 ∨ v0 = 1 ∨ v0 = 3 ∨ v0 = 4 then 0 else -2)) 0 () := pp_X6_count_0_1 v0 s_1
    exact W.iret (v := 0) hx hb hr (fun t ht hW => ⟨⟨0, (), rfl, hpost, trivial⟩, hS.F ht⟩) hS.2.2 dX6_count_40
  by_cases s_2 : v0 = 1
  · skip
    refine lv_tableIn (off := 40) (tgt := 41) hx hb dX6_count_1 (by rw [s_2]; decide) (by rw [s_2]; decide) (by rw [s_2]; decide) (by decide) ?_
    refine lv_aload_n hx hb dX6_count_41 rfl (lv_at hl 0 rfl) ?_
    refine va_get (D := G.1) (ci := 6) (v := .int 0) (C := RX6) (T := TX6) (N := 42) hx hb hts hiX6 hown hK hP 0 rfl rfl 4 (by decide) kf95 (fun _ h9 => h9) rfl dX6_count_42 ?_
    have hpost : (fun (r : Int32) (u : Unit) => match u with | _ => r = (if v0 = 2 then 1 else if v0 = 0 ∨ v0 = 1 ∨ v0 = 3 ∨ v0 = 4 then 0 else -2)) 0 () := pp_X6_count_0_2 v0 s_1 s_2
    exact W.iret (v := 0) hx hb hr (fun t ht hW => ⟨⟨0, (), rfl, hpost, trivial⟩, hS.F ht⟩) hS.2.2 dX6_count_45
  by_cases s_3 : v0 = 2
  · skip
    refine lv_tableIn (off := 45) (tgt := 46) hx hb dX6_count_1 (by rw [s_3]; decide) (by rw [s_3]; decide) (by rw [s_3]; decide) (by decide) ?_
    refine lv_aload_n hx hb dX6_count_46 rfl (lv_at hl 0 rfl) ?_
    refine va_get (D := G.1) (ci := 6) (v := .int 1) (C := RX6) (T := TX6) (N := 42) hx hb hts hiX6 hown hK hP 0 rfl rfl 10 (by decide) kf98 (fun _ h9 => h9) rfl dX6_count_47 ?_
    have hpost : (fun (r : Int32) (u : Unit) => match u with | _ => r = (if v0 = 2 then 1 else if v0 = 0 ∨ v0 = 1 ∨ v0 = 3 ∨ v0 = 4 then 0 else -2)) 1 () := pp_X6_count_0_3 v0 s_1 s_2 s_3
    exact W.iret (v := 1) hx hb hr (fun t ht hW => ⟨⟨1, (), rfl, hpost, trivial⟩, hS.F ht⟩) hS.2.2 dX6_count_50
  by_cases s_4 : v0 = 3
  · skip
    refine lv_tableIn (off := 50) (tgt := 51) hx hb dX6_count_1 (by rw [s_4]; decide) (by rw [s_4]; decide) (by rw [s_4]; decide) (by decide) ?_
    refine lv_aload_n hx hb dX6_count_51 rfl (lv_at hl 0 rfl) ?_
    refine va_get (D := G.1) (ci := 6) (v := .int 0) (C := RX6) (T := TX6) (N := 42) hx hb hts hiX6 hown hK hP 0 rfl rfl 11 (by decide) kf101 (fun _ h9 => h9) rfl dX6_count_52 ?_
    have hpost : (fun (r : Int32) (u : Unit) => match u with | _ => r = (if v0 = 2 then 1 else if v0 = 0 ∨ v0 = 1 ∨ v0 = 3 ∨ v0 = 4 then 0 else -2)) 0 () := pp_X6_count_0_4 v0 s_1 s_2 s_3 s_4
    exact W.iret (v := 0) hx hb hr (fun t ht hW => ⟨⟨0, (), rfl, hpost, trivial⟩, hS.F ht⟩) hS.2.2 dX6_count_55
  by_cases s_5 : v0 = 4
  · skip
    refine lv_tableIn (off := 55) (tgt := 56) hx hb dX6_count_1 (by rw [s_5]; decide) (by rw [s_5]; decide) (by rw [s_5]; decide) (by decide) ?_
    refine lv_aload_n hx hb dX6_count_56 rfl (lv_at hl 0 rfl) ?_
    refine va_get (D := G.1) (ci := 6) (v := .int 0) (C := RX6) (T := TX6) (N := 42) hx hb hts hiX6 hown hK hP 0 rfl rfl 7 (by decide) kf80 (fun _ h9 => h9) rfl dX6_count_57 ?_
    have hpost : (fun (r : Int32) (u : Unit) => match u with | _ => r = (if v0 = 2 then 1 else if v0 = 0 ∨ v0 = 1 ∨ v0 = 3 ∨ v0 = 4 then 0 else -2)) 0 () := pp_X6_count_0_5 v0 s_1 s_2 s_3 s_4 s_5
    exact W.iret (v := 0) hx hb hr (fun t ht hW => ⟨⟨0, (), rfl, hpost, trivial⟩, hS.F ht⟩) hS.2.2 dX6_count_60
  have s_1T := lv_neT (a := 0) s_1 (by decide)
  have s_2T := lv_neT (a := 1) s_2 (by decide)
  have s_3T := lv_neT (a := 2) s_3 (by decide)
  have s_4T := lv_neT (a := 3) s_4 (by decide)
  have s_5T := lv_neT (a := 4) s_5 (by decide)
  refine lv_tableOut (tgt := 61) hx hb dX6_count_1 (by omega) (by decide) ?_
  refine lv_bipush (v := -2) hx hb dX6_count_61 (by decide) ?_
  have hpost : (fun (r : Int32) (u : Unit) => match u with | _ => r = (if v0 = 2 then 1 else if v0 = 0 ∨ v0 = 1 ∨ v0 = 3 ∨ v0 = 4 then 0 else -2)) (-2) () := pp_X6_count_0_6 v0 s_1 s_2 s_3 s_4 s_5
  exact W.iret (v := (-2)) hx hb hr (fun t ht hW => ⟨⟨(-2), (), rfl, hpost, trivial⟩, hS.F ht⟩) hS.2.2 dX6_count_63
theorem pp_X6_judge_0_1 (v0 : Int32) (p_4 : 0 ≤ v0 ∧ v0 ≤ 20) : (0 : Int32) = (if 0 ≤ v0 ∧ v0 ≤ 20 then 0 else -2) := by
  first
    | rfl
    | exact bz_pos (by (first | omega | (simp only [Int32.lt_iff_toInt_lt, Int32.le_iff_toInt_le, ← Int32.toInt_inj, Int32.reduceToInt] at * <;> omega)))
    | exact bz_neg (by (first | omega | (simp only [Int32.lt_iff_toInt_lt, Int32.le_iff_toInt_le, ← Int32.toInt_inj, Int32.reduceToInt] at * <;> omega)))
    | ((repeat' split) <;> first | rfl | assumption | (symm; assumption) | (exfalso; (first | omega | (simp only [Int32.lt_iff_toInt_lt, Int32.le_iff_toInt_le, ← Int32.toInt_inj, Int32.reduceToInt] at * <;> omega))))
theorem pp_X6_judge_0_2 (v0 : Int32) (n_5 : ¬ (0 ≤ v0 ∧ v0 ≤ 20)) : ((-2) : Int32) = (if 0 ≤ v0 ∧ v0 ≤ 20 then 0 else -2) := by
  first
    | rfl
    | exact bz_pos (by (first | omega | (simp only [Int32.lt_iff_toInt_lt, Int32.le_iff_toInt_le, ← Int32.toInt_inj, Int32.reduceToInt] at * <;> omega)))
    | exact bz_neg (by (first | omega | (simp only [Int32.lt_iff_toInt_lt, Int32.le_iff_toInt_le, ← Int32.toInt_inj, Int32.reduceToInt] at * <;> omega)))
    | ((repeat' split) <;> first | rfl | assumption | (symm; assumption) | (exfalso; (first | omega | (simp only [Int32.lt_iff_toInt_lt, Int32.le_iff_toInt_le, ← Int32.toInt_inj, Int32.reduceToInt] at * <;> omega))))
abbrev q_X6_judge_0 (G : gG) (h0 kd mo st ro tp cd sr ir ih ss sq ce lw wo he sk na kp gb go fa ga vo : Nat) (v0 : Int32) (A : Nat → Prop) : Array Value → State → Outcome → State → Prop := va_Qi (fun (r : Int32) (u : Unit) => match u with | _ => r = (if 0 ≤ v0 ∧ v0 ≤ 20 then 0 else -2)) (fun (u : Unit) t => match u with | _ => True) A
set_option maxHeartbeats 4000000 in
set_option maxRecDepth 100000 in
theorem c_X6_judge_0 (l : Launch) (G : gG) (h0 kd mo st ro tp cd sr ir ih ss sq ce lw wo he sk na kp gb go fa ga vo : Nat) (v0 : Int32) (sz : Nat) : Met l yX6_judge wsX6_judge ({ frames := 1, cells := 0, slots := 0, locals := 22 }) (gPre G [.ref h0, .int v0] [(h0, .inr (6, [.int 0, .ref kd, .ref mo, .ref st, .int 0, .ref ro, .ref tp, .int 0, .ref cd, .ref sr, .int 1, .int 0, .int 0, .ref ir, .ref ih, .ref ss, .ref sq, .ref ce, .ref lw, .int 40, .int 40, .int 0, .int 0, .ref wo, .ref he, .int 0, .int 0, .int 5, .ref sk, .ref na, .ref kp, .int 0, .int 0, .int 0, .int 0, .ref gb, .ref go, .ref fa, .ref ga, .int 0, .int 0, .ref vo])), (ro, .inl (G.2.1, 12, .inl (fun _ => 0)))] sz) (q_X6_judge_0 G h0 kd mo st ro tp cd sr ir ih ss sq ce lw wo he sk na kp gb go fa ga vo v0 (va_A [(h0, .inr (6, [.int 0, .ref kd, .ref mo, .ref st, .int 0, .ref ro, .ref tp, .int 0, .ref cd, .ref sr, .int 1, .int 0, .int 0, .ref ir, .ref ih, .ref ss, .ref sq, .ref ce, .ref lw, .int 40, .int 40, .int 0, .int 0, .ref wo, .ref he, .int 0, .int 0, .int 5, .ref sk, .ref na, .ref kp, .int 0, .int 0, .int 0, .int 0, .ref gb, .ref go, .ref fa, .ref ga, .int 0, .int 0, .ref vo])), (ro, .inl (G.2.1, 12, .inl (fun _ => 0)))] sz)) 0 0 (va_A [(h0, .inr (6, [.int 0, .ref kd, .ref mo, .ref st, .int 0, .ref ro, .ref tp, .int 0, .ref cd, .ref sr, .int 1, .int 0, .int 0, .ref ir, .ref ih, .ref ss, .ref sq, .ref ce, .ref lw, .int 40, .int 40, .int 0, .int 0, .ref wo, .ref he, .int 0, .int 0, .int 5, .ref sk, .ref na, .ref kp, .int 0, .int 0, .int 0, .int 0, .ref gb, .ref go, .ref fa, .ref ga, .int 0, .int 0, .ref vo])), (ro, .inl (G.2.1, 12, .inl (fun _ => 0)))] sz) := by
  refine Met.ofW (cc := cX6_judge) (maxL := 2) (ret := (some .int)) (by decide) rfl ?_
  intro p e s m args below meth c s₁ B hml hv
  obtain ⟨rfl, hsz, hP, hK, hD0⟩ := hv
  have hx := B.exec
  have hb := B.bytes
  have hr := B.returns
  have hts := atoms_spec (ws := wsX6_judge) B.pre
  have hown : s.vm.findClass RX6 = some m.cls := findClass_of_methodNamed B.named
  have hlocks := B.notSynchronized
  subst hsz
  have hD := hD0.self (sz := s.heap.size)
  generalize hAe : va_A [(h0, .inr (6, [.int 0, .ref kd, .ref mo, .ref st, .int 0, .ref ro, .ref tp, .int 0, .ref cd, .ref sr, .int 1, .int 0, .int 0, .ref ir, .ref ih, .ref ss, .ref sq, .ref ce, .ref lw, .int 40, .int 40, .int 0, .int 0, .ref wo, .ref he, .int 0, .int 0, .int 5, .ref sk, .ref na, .ref kp, .int 0, .int 0, .int 0, .int 0, .ref gb, .ref go, .ref fa, .ref ga, .int 0, .int 0, .ref vo])), (ro, .inl (G.2.1, 12, .inl (fun _ => 0)))] s.heap.size = A at hD ⊢
  have hA : ∀ q : Nat, s.heap.size ≤ q → A q := fun q h => by rw [← hAe]; exact Or.inr h
  have hS : va_S A s.heap s.heap [] := va_S.rf
  have hP : va_P G.1 vwCl [(h0, .inr (6, [.int 0, .ref kd, .ref mo, .ref st, .int 0, .ref ro, .ref tp, .int 0, .ref cd, .ref sr, .int 1, .int 0, .int 0, .ref ir, .ref ih, .ref ss, .ref sq, .ref ce, .ref lw, .int 40, .int 40, .int 0, .int 0, .ref wo, .ref he, .int 0, .int 0, .int 5, .ref sk, .ref na, .ref kp, .int 0, .int 0, .int 0, .int 0, .ref gb, .ref go, .ref fa, .ref ga, .int 0, .int 0, .ref vo])), (ro, .inl (G.2.1, 12, .inl (fun _ => 0)))] s.heap := hP
  have hD : va_D A [(h0, .inr (6, [.int 0, .ref kd, .ref mo, .ref st, .int 0, .ref ro, .ref tp, .int 0, .ref cd, .ref sr, .int 1, .int 0, .int 0, .ref ir, .ref ih, .ref ss, .ref sq, .ref ce, .ref lw, .int 40, .int 40, .int 0, .int 0, .ref wo, .ref he, .int 0, .int 0, .int 5, .ref sk, .ref na, .ref kp, .int 0, .int 0, .int 0, .int 0, .ref gb, .ref go, .ref fa, .ref ga, .int 0, .int 0, .ref vo])), (ro, .inl (G.2.1, 12, .inl (fun _ => 0)))] := hD
  have hl := lv_entry ([.ref h0, .int v0]) (n := 2) (Nat.le_of_ble_eq_true rfl)
  rw [lg_entry_eq]
  generalize (lg_sl ([.ref h0, .int v0]) ++ List.replicate (2 - (lg_sl ([.ref h0, .int v0])).length) Slot.unset).toArray = ls at hl ⊢
  have hl : lv_has ls 2 [(0, .ref h0), (1, .int v0)] := hl
  have kf95 := hts (.fieldLink RX6 95 "PebbleInShoeModel" "judges" "I") (by decide +kernel)
  have hiX6 := (by decide +kernel : ∀ w ∈ wsX60, w ∈ wsX6_judge)
  have kf19 := hts (.fieldLink RX6 19 "PebbleInShoeModel" "rows" "[I") (by decide +kernel)
  refine lv_iload_n hx hb dX6_judge_0 rfl (lv_at hl 1 rfl) ?_
  refine lv_iconst (v := 0) hx hb dX6_judge_1 (by decide) ?_
  refine lv_bipush (v := 20) hx hb dX6_judge_2 (by decide) ?_
  have hPc : va_P G.1 vwCl [] s.heap := hP.sub [] rfl
  have hDc : va_D A [] := hD.sub [] (by decide) rfl
  have hFc := va_free (wc := []) hD hS hA [] rfl
  refine va_calli (va_runS (As := [.int v0, .int 0, .int 20]) (rest := []) ⟨hx, hb, hml, hown, hts⟩ (c_X6_in l G v0 0 20 s.heap.size) (va_cwS 3 hts gX6_judge_X6_in rfl rfl rfl (by decide +kernel) ⟨Nat.le_of_ble_eq_true rfl, Nat.le_of_ble_eq_true rfl⟩) ⟨gPre_blind, fun U hU hW => gPre_of hU hW hK hPc hDc⟩ rfl rfl hl.1 rfl (lv_room (Nat.le_of_ble_eq_true rfl)) dX6_judge_4 ⟨Nat.le_of_ble_eq_true rfl, Nat.le_of_ble_eq_true rfl⟩) hS (fun q _ h => hFc q h) hFc (fun r_1 u t H locs ht hvm w_2 hB hz1 hk1 hS => ?_)
  obtain ⟨hP1, hK1, hD1⟩ := hB
  rw [ht] at hP1
  have hP1 : va_P G.1 vwCl [] H := hP1
  have hD1 : va_D (va_A [] s.heap.size) [] := hD1
  have w_2 : r_1 = bz (decide (0 ≤ v0 ∧ v0 ≤ 20)) := w_2
  obtain ⟨hP, hD⟩ := va_join (wr := [(h0, .inr (6, [.int 0, .ref kd, .ref mo, .ref st, .int 0, .ref ro, .ref tp, .int 0, .ref cd, .ref sr, .int 1, .int 0, .int 0, .ref ir, .ref ih, .ref ss, .ref sq, .ref ce, .ref lw, .int 40, .int 40, .int 0, .int 0, .ref wo, .ref he, .int 0, .int 0, .int 5, .ref sk, .ref na, .ref kp, .int 0, .int 0, .int 0, .int 0, .ref gb, .ref go, .ref fa, .ref ga, .int 0, .int 0, .ref vo])), (ro, .inl (G.2.1, 12, .inl (fun _ => 0)))]) (w1 := []) hP hD [] [0, 1] rfl rfl (by decide) (by decide) hk1 hFc hP1 hD1
  have hP : va_P G.1 vwCl [(h0, .inr (6, [.int 0, .ref kd, .ref mo, .ref st, .int 0, .ref ro, .ref tp, .int 0, .ref cd, .ref sr, .int 1, .int 0, .int 0, .ref ir, .ref ih, .ref ss, .ref sq, .ref ce, .ref lw, .int 40, .int 40, .int 0, .int 0, .ref wo, .ref he, .int 0, .int 0, .int 5, .ref sk, .ref na, .ref kp, .int 0, .int 0, .int 0, .int 0, .ref gb, .ref go, .ref fa, .ref ga, .int 0, .int 0, .ref vo])), (ro, .inl (G.2.1, 12, .inl (fun _ => 0)))] H := hP
  have hD : va_D A [(h0, .inr (6, [.int 0, .ref kd, .ref mo, .ref st, .int 0, .ref ro, .ref tp, .int 0, .ref cd, .ref sr, .int 1, .int 0, .int 0, .ref ir, .ref ih, .ref ss, .ref sq, .ref ce, .ref lw, .int 40, .int 40, .int 0, .int 0, .ref wo, .ref he, .int 0, .int 0, .int 5, .ref sk, .ref na, .ref kp, .int 0, .int 0, .int 0, .int 0, .ref gb, .ref go, .ref fa, .ref ga, .int 0, .int 0, .ref vo])), (ro, .inl (G.2.1, 12, .inl (fun _ => 0)))] := hD
  refine lv_if_ne (tgt := 13) hx hb dX6_judge_7 (by decide) (fun c_3 => ?_) (fun c_3 => ?_)
  · skip
    have p_4 : 0 ≤ v0 ∧ v0 ≤ 20 := of_decide_eq_true (bz_ne w_2 c_3)
    refine lv_aload_n hx hb dX6_judge_13 rfl (lv_at hl 0 rfl) ?_
    refine va_get (D := G.1) (ci := 6) (v := .int 0) (C := RX6) (T := TX6) (N := 42) hx hb hts hiX6 hown hK hP 0 rfl rfl 4 (by decide) kf95 (fun _ h9 => h9) rfl dX6_judge_14 ?_
    refine lv_iconst (v := 4) hx hb dX6_judge_17 (by decide) ?_
    refine lv_icmp_ne (tgt := 24) hx hb dX6_judge_18 (by decide) (fun c_6 => ?_) (fun c_6 => ?_)
    rotate_left
    · exact absurd c_6 (by decide)
    refine lv_aload_n hx hb dX6_judge_24 rfl (lv_at hl 0 rfl) ?_
    refine va_get (D := G.1) (ci := 6) (v := .ref ro) (C := RX6) (T := TX6) (N := 42) hx hb hts hiX6 hown hK hP 0 rfl rfl 5 (by decide) kf19 (fun _ h9 => h9) rfl dX6_judge_25 ?_
    refine lv_iconst (v := 3) hx hb dX6_judge_28 (by decide) ?_
    refine lv_aload_n hx hb dX6_judge_29 rfl (lv_at hl 0 rfl) ?_
    refine va_get (D := G.1) (ci := 6) (v := .int 0) (C := RX6) (T := TX6) (N := 42) hx hb hts hiX6 hown hK hP 0 rfl rfl 4 (by decide) kf95 (fun _ h9 => h9) rfl dX6_judge_30 ?_
    refine lv_imul hx hb dX6_judge_33 ?_
    refine lv_topi (fun v_7 ev_7 => ?_)
    have ev_7 : v_7 = 0 := ev_7.trans (by decide)
    subst ev_7
    refine lv_iload_n hx hb dX6_judge_34 rfl (lv_at hl 1 rfl) ?_
    refine va_iast (D := G.1) hx hb hK hP hD hS 1 0 rfl rfl (i := 0) (x := v0) (gIn (by decide)) dX6_judge_35 (fun H locs hP hD hS => ?_)
    have hP : va_P G.1 vwCl [(h0, .inr (6, [.int 0, .ref kd, .ref mo, .ref st, .int 0, .ref ro, .ref tp, .int 0, .ref cd, .ref sr, .int 1, .int 0, .int 0, .ref ir, .ref ih, .ref ss, .ref sq, .ref ce, .ref lw, .int 40, .int 40, .int 0, .int 0, .ref wo, .ref he, .int 0, .int 0, .int 5, .ref sk, .ref na, .ref kp, .int 0, .int 0, .int 0, .int 0, .ref gb, .ref go, .ref fa, .ref ga, .int 0, .int 0, .ref vo])), (ro, .inl (G.2.1, 12, .inl (upd (fun _ => 0) 0 v0)))] H := hP
    have hD : va_D A [(h0, .inr (6, [.int 0, .ref kd, .ref mo, .ref st, .int 0, .ref ro, .ref tp, .int 0, .ref cd, .ref sr, .int 1, .int 0, .int 0, .ref ir, .ref ih, .ref ss, .ref sq, .ref ce, .ref lw, .int 40, .int 40, .int 0, .int 0, .ref wo, .ref he, .int 0, .int 0, .int 5, .ref sk, .ref na, .ref kp, .int 0, .int 0, .int 0, .int 0, .ref gb, .ref go, .ref fa, .ref ga, .int 0, .int 0, .ref vo])), (ro, .inl (G.2.1, 12, .inl (upd (fun _ => 0) 0 v0)))] := hD
    refine lv_aload_n hx hb dX6_judge_36 rfl (lv_at hl 0 rfl) ?_
    refine va_get (D := G.1) (ci := 6) (v := .ref ro) (C := RX6) (T := TX6) (N := 42) hx hb hts hiX6 hown hK hP 0 rfl rfl 5 (by decide) kf19 (fun _ h9 => h9) rfl dX6_judge_37 ?_
    refine lv_iconst (v := 3) hx hb dX6_judge_40 (by decide) ?_
    refine lv_aload_n hx hb dX6_judge_41 rfl (lv_at hl 0 rfl) ?_
    refine va_get (D := G.1) (ci := 6) (v := .int 0) (C := RX6) (T := TX6) (N := 42) hx hb hts hiX6 hown hK hP 0 rfl rfl 4 (by decide) kf95 (fun _ h9 => h9) rfl dX6_judge_42 ?_
    refine lv_imul hx hb dX6_judge_45 ?_
    refine lv_topi (fun v_8 ev_8 => ?_)
    have ev_8 : v_8 = 0 := ev_8.trans (by decide)
    subst ev_8
    refine lv_iconst (v := 1) hx hb dX6_judge_46 (by decide) ?_
    refine lv_iadd hx hb dX6_judge_47 ?_
    refine lv_topi (fun v_9 ev_9 => ?_)
    have ev_9 : v_9 = 1 := ev_9.trans (by decide)
    subst ev_9
    refine lv_iconst (v := 0) hx hb dX6_judge_48 (by decide) ?_
    refine va_iast (D := G.1) hx hb hK hP hD hS 1 0 rfl rfl (i := 1) (x := 0) (gIn (by decide)) dX6_judge_49 (fun H locs hP hD hS => ?_)
    have hP : va_P G.1 vwCl [(h0, .inr (6, [.int 0, .ref kd, .ref mo, .ref st, .int 0, .ref ro, .ref tp, .int 0, .ref cd, .ref sr, .int 1, .int 0, .int 0, .ref ir, .ref ih, .ref ss, .ref sq, .ref ce, .ref lw, .int 40, .int 40, .int 0, .int 0, .ref wo, .ref he, .int 0, .int 0, .int 5, .ref sk, .ref na, .ref kp, .int 0, .int 0, .int 0, .int 0, .ref gb, .ref go, .ref fa, .ref ga, .int 0, .int 0, .ref vo])), (ro, .inl (G.2.1, 12, .inl (upd (upd (fun _ => 0) 0 v0) 1 0)))] H := hP
    have hD : va_D A [(h0, .inr (6, [.int 0, .ref kd, .ref mo, .ref st, .int 0, .ref ro, .ref tp, .int 0, .ref cd, .ref sr, .int 1, .int 0, .int 0, .ref ir, .ref ih, .ref ss, .ref sq, .ref ce, .ref lw, .int 40, .int 40, .int 0, .int 0, .ref wo, .ref he, .int 0, .int 0, .int 5, .ref sk, .ref na, .ref kp, .int 0, .int 0, .int 0, .int 0, .ref gb, .ref go, .ref fa, .ref ga, .int 0, .int 0, .ref vo])), (ro, .inl (G.2.1, 12, .inl (upd (upd (fun _ => 0) 0 v0) 1 0)))] := hD
    refine lv_aload_n hx hb dX6_judge_50 rfl (lv_at hl 0 rfl) ?_
    refine va_get (D := G.1) (ci := 6) (v := .ref ro) (C := RX6) (T := TX6) (N := 42) hx hb hts hiX6 hown hK hP 0 rfl rfl 5 (by decide) kf19 (fun _ h9 => h9) rfl dX6_judge_51 ?_
    refine lv_iconst (v := 3) hx hb dX6_judge_54 (by decide) ?_
    refine lv_aload_n hx hb dX6_judge_55 rfl (lv_at hl 0 rfl) ?_
    refine va_get (D := G.1) (ci := 6) (v := .int 0) (C := RX6) (T := TX6) (N := 42) hx hb hts hiX6 hown hK hP 0 rfl rfl 4 (by decide) kf95 (fun _ h9 => h9) rfl dX6_judge_56 ?_
    refine lv_imul hx hb dX6_judge_59 ?_
    refine lv_topi (fun v_10 ev_10 => ?_)
    have ev_10 : v_10 = 0 := ev_10.trans (by decide)
    subst ev_10
    refine lv_iconst (v := 2) hx hb dX6_judge_60 (by decide) ?_
    refine lv_iadd hx hb dX6_judge_61 ?_
    refine lv_topi (fun v_11 ev_11 => ?_)
    have ev_11 : v_11 = 2 := ev_11.trans (by decide)
    subst ev_11
    refine lv_iconst (v := 0) hx hb dX6_judge_62 (by decide) ?_
    refine va_iast (D := G.1) hx hb hK hP hD hS 1 0 rfl rfl (i := 2) (x := 0) (gIn (by decide)) dX6_judge_63 (fun H locs hP hD hS => ?_)
    have hP : va_P G.1 vwCl [(h0, .inr (6, [.int 0, .ref kd, .ref mo, .ref st, .int 0, .ref ro, .ref tp, .int 0, .ref cd, .ref sr, .int 1, .int 0, .int 0, .ref ir, .ref ih, .ref ss, .ref sq, .ref ce, .ref lw, .int 40, .int 40, .int 0, .int 0, .ref wo, .ref he, .int 0, .int 0, .int 5, .ref sk, .ref na, .ref kp, .int 0, .int 0, .int 0, .int 0, .ref gb, .ref go, .ref fa, .ref ga, .int 0, .int 0, .ref vo])), (ro, .inl (G.2.1, 12, .inl (upd (upd (upd (fun _ => 0) 0 v0) 1 0) 2 0)))] H := hP
    have hD : va_D A [(h0, .inr (6, [.int 0, .ref kd, .ref mo, .ref st, .int 0, .ref ro, .ref tp, .int 0, .ref cd, .ref sr, .int 1, .int 0, .int 0, .ref ir, .ref ih, .ref ss, .ref sq, .ref ce, .ref lw, .int 40, .int 40, .int 0, .int 0, .ref wo, .ref he, .int 0, .int 0, .int 5, .ref sk, .ref na, .ref kp, .int 0, .int 0, .int 0, .int 0, .ref gb, .ref go, .ref fa, .ref ga, .int 0, .int 0, .ref vo])), (ro, .inl (G.2.1, 12, .inl (upd (upd (upd (fun _ => 0) 0 v0) 1 0) 2 0)))] := hD
    refine lv_aload_n hx hb dX6_judge_64 rfl (lv_at hl 0 rfl) ?_
    refine lv_dup hx hb dX6_judge_65 rfl ?_
    refine va_get (D := G.1) (ci := 6) (v := .int 0) (C := RX6) (T := TX6) (N := 42) hx hb hts hiX6 hown hK hP 0 rfl rfl 4 (by decide) kf95 (fun _ h9 => h9) rfl dX6_judge_66 ?_
    refine lv_iconst (v := 1) hx hb dX6_judge_69 (by decide) ?_
    refine lv_iadd hx hb dX6_judge_70 ?_
    refine lv_topi (fun v_12 ev_12 => ?_)
    have ev_12 : v_12 = 1 := ev_12.trans (by decide)
    subst ev_12
    refine va_put (D := G.1) (ci := 6) (v := .int 1) (ty := .int) (C := RX6) (T := TX6) (N := 42) hx hb hts hiX6 tyX6 tyX6_ok nmX6 hown hK hP hD hS 0 rfl rfl 4 (by decide) kf95 (fun _ h9 => h9) rfl (by decide +kernel) rfl rfl (Nat.le_of_ble_eq_true rfl) dX6_judge_71 (fun H locs hP hD hS => ?_)
    have hP : va_P G.1 vwCl [(h0, .inr (6, [.int 0, .ref kd, .ref mo, .ref st, .int 1, .ref ro, .ref tp, .int 0, .ref cd, .ref sr, .int 1, .int 0, .int 0, .ref ir, .ref ih, .ref ss, .ref sq, .ref ce, .ref lw, .int 40, .int 40, .int 0, .int 0, .ref wo, .ref he, .int 0, .int 0, .int 5, .ref sk, .ref na, .ref kp, .int 0, .int 0, .int 0, .int 0, .ref gb, .ref go, .ref fa, .ref ga, .int 0, .int 0, .ref vo])), (ro, .inl (G.2.1, 12, .inl (upd (upd (upd (fun _ => 0) 0 v0) 1 0) 2 0)))] H := hP
    have hD : va_D A [(h0, .inr (6, [.int 0, .ref kd, .ref mo, .ref st, .int 1, .ref ro, .ref tp, .int 0, .ref cd, .ref sr, .int 1, .int 0, .int 0, .ref ir, .ref ih, .ref ss, .ref sq, .ref ce, .ref lw, .int 40, .int 40, .int 0, .int 0, .ref wo, .ref he, .int 0, .int 0, .int 5, .ref sk, .ref na, .ref kp, .int 0, .int 0, .int 0, .int 0, .ref gb, .ref go, .ref fa, .ref ga, .int 0, .int 0, .ref vo])), (ro, .inl (G.2.1, 12, .inl (upd (upd (upd (fun _ => 0) 0 v0) 1 0) 2 0)))] := hD
    refine lv_aload_n hx hb dX6_judge_74 rfl (lv_at hl 0 rfl) ?_
    refine va_get (D := G.1) (ci := 6) (v := .int 1) (C := RX6) (T := TX6) (N := 42) hx hb hts hiX6 hown hK hP 0 rfl rfl 4 (by decide) kf95 (fun _ h9 => h9) rfl dX6_judge_75 ?_
    refine lv_iconst (v := 1) hx hb dX6_judge_78 (by decide) ?_
    refine lv_isub hx hb dX6_judge_79 ?_
    refine lv_topi (fun v_13 ev_13 => ?_)
    have ev_13 : v_13 = 0 := ev_13.trans (by decide)
    subst ev_13
    have hpost : (fun (r : Int32) (u : Unit) => match u with | _ => r = (if 0 ≤ v0 ∧ v0 ≤ 20 then 0 else -2)) 0 () := pp_X6_judge_0_1 v0 p_4
    exact W.iret (v := 0) hx hb hr (fun t ht hW => ⟨⟨0, (), rfl, hpost, trivial⟩, hS.F ht⟩) hS.2.2 dX6_judge_80
  · skip
    have n_5 : ¬ (0 ≤ v0 ∧ v0 ≤ 20) := of_decide_eq_false (bz_eq w_2 c_3)
    refine lv_bipush (v := -2) hx hb dX6_judge_10 (by decide) ?_
    have hpost : (fun (r : Int32) (u : Unit) => match u with | _ => r = (if 0 ≤ v0 ∧ v0 ≤ 20 then 0 else -2)) (-2) () := pp_X6_judge_0_2 v0 n_5
    exact W.iret (v := (-2)) hx hb hr (fun t ht hW => ⟨⟨(-2), (), rfl, hpost, trivial⟩, hS.F ht⟩) hS.2.2 dX6_judge_12
theorem pp_X6_feed_0_1 (v0 : Int32) (v1 : Int32) (v2 : Int32) (v3 : Int32) (v4 : Int32) (v5 : Int32) (n_5 : ¬ (1 ≤ v0 ∧ v0 ≤ 5)) : ((-2) : Int32) = (if (1 ≤ v0 ∧ v0 ≤ 5) ∧ (0 ≤ v1 ∧ v1 ≤ 255) ∧ (0 ≤ v2 ∧ v2 ≤ 255) ∧ (0 ≤ v3 ∧ v3 ≤ 255) ∧ (0 ≤ v4 ∧ v4 ≤ 255) ∧ (0 ≤ v5 ∧ v5 ≤ 255) then v0 else -2) := by
  first
    | rfl
    | exact bz_pos (by (first | omega | (simp only [Int32.lt_iff_toInt_lt, Int32.le_iff_toInt_le, ← Int32.toInt_inj, Int32.reduceToInt] at * <;> omega)))
    | exact bz_neg (by (first | omega | (simp only [Int32.lt_iff_toInt_lt, Int32.le_iff_toInt_le, ← Int32.toInt_inj, Int32.reduceToInt] at * <;> omega)))
    | ((repeat' split) <;> first | rfl | assumption | (symm; assumption) | (exfalso; (first | omega | (simp only [Int32.lt_iff_toInt_lt, Int32.le_iff_toInt_le, ← Int32.toInt_inj, Int32.reduceToInt] at * <;> omega))))
theorem pp_X6_feed_0_2 (v0 : Int32) (v1 : Int32) (v2 : Int32) (v3 : Int32) (v4 : Int32) (v5 : Int32) (p_4 : 1 ≤ v0 ∧ v0 ≤ 5) (n_10 : ¬ (0 ≤ v1 ∧ v1 ≤ 255)) : ((-2) : Int32) = (if (1 ≤ v0 ∧ v0 ≤ 5) ∧ (0 ≤ v1 ∧ v1 ≤ 255) ∧ (0 ≤ v2 ∧ v2 ≤ 255) ∧ (0 ≤ v3 ∧ v3 ≤ 255) ∧ (0 ≤ v4 ∧ v4 ≤ 255) ∧ (0 ≤ v5 ∧ v5 ≤ 255) then v0 else -2) := by
  first
    | rfl
    | exact bz_pos (by (first | omega | (simp only [Int32.lt_iff_toInt_lt, Int32.le_iff_toInt_le, ← Int32.toInt_inj, Int32.reduceToInt] at * <;> omega)))
    | exact bz_neg (by (first | omega | (simp only [Int32.lt_iff_toInt_lt, Int32.le_iff_toInt_le, ← Int32.toInt_inj, Int32.reduceToInt] at * <;> omega)))
    | ((repeat' split) <;> first | rfl | assumption | (symm; assumption) | (exfalso; (first | omega | (simp only [Int32.lt_iff_toInt_lt, Int32.le_iff_toInt_le, ← Int32.toInt_inj, Int32.reduceToInt] at * <;> omega))))
theorem pp_X6_feed_0_3 (v0 : Int32) (v1 : Int32) (v2 : Int32) (v3 : Int32) (v4 : Int32) (v5 : Int32) (p_4 : 1 ≤ v0 ∧ v0 ≤ 5) (p_9 : 0 ≤ v1 ∧ v1 ≤ 255) (n_15 : ¬ (0 ≤ v2 ∧ v2 ≤ 255)) : ((-2) : Int32) = (if (1 ≤ v0 ∧ v0 ≤ 5) ∧ (0 ≤ v1 ∧ v1 ≤ 255) ∧ (0 ≤ v2 ∧ v2 ≤ 255) ∧ (0 ≤ v3 ∧ v3 ≤ 255) ∧ (0 ≤ v4 ∧ v4 ≤ 255) ∧ (0 ≤ v5 ∧ v5 ≤ 255) then v0 else -2) := by
  first
    | rfl
    | exact bz_pos (by (first | omega | (simp only [Int32.lt_iff_toInt_lt, Int32.le_iff_toInt_le, ← Int32.toInt_inj, Int32.reduceToInt] at * <;> omega)))
    | exact bz_neg (by (first | omega | (simp only [Int32.lt_iff_toInt_lt, Int32.le_iff_toInt_le, ← Int32.toInt_inj, Int32.reduceToInt] at * <;> omega)))
    | ((repeat' split) <;> first | rfl | assumption | (symm; assumption) | (exfalso; (first | omega | (simp only [Int32.lt_iff_toInt_lt, Int32.le_iff_toInt_le, ← Int32.toInt_inj, Int32.reduceToInt] at * <;> omega))))
theorem pp_X6_feed_0_4 (v0 : Int32) (v1 : Int32) (v2 : Int32) (v3 : Int32) (v4 : Int32) (v5 : Int32) (p_4 : 1 ≤ v0 ∧ v0 ≤ 5) (p_9 : 0 ≤ v1 ∧ v1 ≤ 255) (p_14 : 0 ≤ v2 ∧ v2 ≤ 255) (n_20 : ¬ (0 ≤ v3 ∧ v3 ≤ 255)) : ((-2) : Int32) = (if (1 ≤ v0 ∧ v0 ≤ 5) ∧ (0 ≤ v1 ∧ v1 ≤ 255) ∧ (0 ≤ v2 ∧ v2 ≤ 255) ∧ (0 ≤ v3 ∧ v3 ≤ 255) ∧ (0 ≤ v4 ∧ v4 ≤ 255) ∧ (0 ≤ v5 ∧ v5 ≤ 255) then v0 else -2) := by
  first
    | rfl
    | exact bz_pos (by (first | omega | (simp only [Int32.lt_iff_toInt_lt, Int32.le_iff_toInt_le, ← Int32.toInt_inj, Int32.reduceToInt] at * <;> omega)))
    | exact bz_neg (by (first | omega | (simp only [Int32.lt_iff_toInt_lt, Int32.le_iff_toInt_le, ← Int32.toInt_inj, Int32.reduceToInt] at * <;> omega)))
    | ((repeat' split) <;> first | rfl | assumption | (symm; assumption) | (exfalso; (first | omega | (simp only [Int32.lt_iff_toInt_lt, Int32.le_iff_toInt_le, ← Int32.toInt_inj, Int32.reduceToInt] at * <;> omega))))
theorem pp_X6_feed_0_5 (v0 : Int32) (v1 : Int32) (v2 : Int32) (v3 : Int32) (v4 : Int32) (v5 : Int32) (p_4 : 1 ≤ v0 ∧ v0 ≤ 5) (p_9 : 0 ≤ v1 ∧ v1 ≤ 255) (p_14 : 0 ≤ v2 ∧ v2 ≤ 255) (p_19 : 0 ≤ v3 ∧ v3 ≤ 255) (n_25 : ¬ (0 ≤ v4 ∧ v4 ≤ 255)) : ((-2) : Int32) = (if (1 ≤ v0 ∧ v0 ≤ 5) ∧ (0 ≤ v1 ∧ v1 ≤ 255) ∧ (0 ≤ v2 ∧ v2 ≤ 255) ∧ (0 ≤ v3 ∧ v3 ≤ 255) ∧ (0 ≤ v4 ∧ v4 ≤ 255) ∧ (0 ≤ v5 ∧ v5 ≤ 255) then v0 else -2) := by
  first
    | rfl
    | exact bz_pos (by (first | omega | (simp only [Int32.lt_iff_toInt_lt, Int32.le_iff_toInt_le, ← Int32.toInt_inj, Int32.reduceToInt] at * <;> omega)))
    | exact bz_neg (by (first | omega | (simp only [Int32.lt_iff_toInt_lt, Int32.le_iff_toInt_le, ← Int32.toInt_inj, Int32.reduceToInt] at * <;> omega)))
    | ((repeat' split) <;> first | rfl | assumption | (symm; assumption) | (exfalso; (first | omega | (simp only [Int32.lt_iff_toInt_lt, Int32.le_iff_toInt_le, ← Int32.toInt_inj, Int32.reduceToInt] at * <;> omega))))
theorem pp_X6_feed_0_6 (v0 : Int32) (v1 : Int32) (v2 : Int32) (v3 : Int32) (v4 : Int32) (v5 : Int32) (p_4 : 1 ≤ v0 ∧ v0 ≤ 5) (p_9 : 0 ≤ v1 ∧ v1 ≤ 255) (p_14 : 0 ≤ v2 ∧ v2 ≤ 255) (p_19 : 0 ≤ v3 ∧ v3 ≤ 255) (p_24 : 0 ≤ v4 ∧ v4 ≤ 255) (p_29 : 0 ≤ v5 ∧ v5 ≤ 255) (hk : v0 = 1) : (1 : Int32) = (if (1 ≤ v0 ∧ v0 ≤ 5) ∧ (0 ≤ v1 ∧ v1 ≤ 255) ∧ (0 ≤ v2 ∧ v2 ≤ 255) ∧ (0 ≤ v3 ∧ v3 ≤ 255) ∧ (0 ≤ v4 ∧ v4 ≤ 255) ∧ (0 ≤ v5 ∧ v5 ≤ 255) then v0 else -2) := by
  first
    | rfl
    | exact bz_pos (by (first | omega | (simp only [Int32.lt_iff_toInt_lt, Int32.le_iff_toInt_le, ← Int32.toInt_inj, Int32.reduceToInt] at * <;> omega)))
    | exact bz_neg (by (first | omega | (simp only [Int32.lt_iff_toInt_lt, Int32.le_iff_toInt_le, ← Int32.toInt_inj, Int32.reduceToInt] at * <;> omega)))
    | ((repeat' split) <;> first | rfl | assumption | (symm; assumption) | (exfalso; (first | omega | (simp only [Int32.lt_iff_toInt_lt, Int32.le_iff_toInt_le, ← Int32.toInt_inj, Int32.reduceToInt] at * <;> omega))))
theorem pp_X6_feed_0_7 (v0 : Int32) (v1 : Int32) (v2 : Int32) (v3 : Int32) (v4 : Int32) (v5 : Int32) (p_4 : 1 ≤ v0 ∧ v0 ≤ 5) (p_9 : 0 ≤ v1 ∧ v1 ≤ 255) (p_14 : 0 ≤ v2 ∧ v2 ≤ 255) (p_19 : 0 ≤ v3 ∧ v3 ≤ 255) (p_24 : 0 ≤ v4 ∧ v4 ≤ 255) (p_29 : 0 ≤ v5 ∧ v5 ≤ 255) (hk : v0 = 2) : (2 : Int32) = (if (1 ≤ v0 ∧ v0 ≤ 5) ∧ (0 ≤ v1 ∧ v1 ≤ 255) ∧ (0 ≤ v2 ∧ v2 ≤ 255) ∧ (0 ≤ v3 ∧ v3 ≤ 255) ∧ (0 ≤ v4 ∧ v4 ≤ 255) ∧ (0 ≤ v5 ∧ v5 ≤ 255) then v0 else -2) := by
  first
    | rfl
    | exact bz_pos (by (first | omega | (simp only [Int32.lt_iff_toInt_lt, Int32.le_iff_toInt_le, ← Int32.toInt_inj, Int32.reduceToInt] at * <;> omega)))
    | exact bz_neg (by (first | omega | (simp only [Int32.lt_iff_toInt_lt, Int32.le_iff_toInt_le, ← Int32.toInt_inj, Int32.reduceToInt] at * <;> omega)))
    | ((repeat' split) <;> first | rfl | assumption | (symm; assumption) | (exfalso; (first | omega | (simp only [Int32.lt_iff_toInt_lt, Int32.le_iff_toInt_le, ← Int32.toInt_inj, Int32.reduceToInt] at * <;> omega))))
theorem pp_X6_feed_0_8 (v0 : Int32) (v1 : Int32) (v2 : Int32) (v3 : Int32) (v4 : Int32) (v5 : Int32) (p_4 : 1 ≤ v0 ∧ v0 ≤ 5) (p_9 : 0 ≤ v1 ∧ v1 ≤ 255) (p_14 : 0 ≤ v2 ∧ v2 ≤ 255) (p_19 : 0 ≤ v3 ∧ v3 ≤ 255) (p_24 : 0 ≤ v4 ∧ v4 ≤ 255) (p_29 : 0 ≤ v5 ∧ v5 ≤ 255) (hk : v0 = 3) : (3 : Int32) = (if (1 ≤ v0 ∧ v0 ≤ 5) ∧ (0 ≤ v1 ∧ v1 ≤ 255) ∧ (0 ≤ v2 ∧ v2 ≤ 255) ∧ (0 ≤ v3 ∧ v3 ≤ 255) ∧ (0 ≤ v4 ∧ v4 ≤ 255) ∧ (0 ≤ v5 ∧ v5 ≤ 255) then v0 else -2) := by
  first
    | rfl
    | exact bz_pos (by (first | omega | (simp only [Int32.lt_iff_toInt_lt, Int32.le_iff_toInt_le, ← Int32.toInt_inj, Int32.reduceToInt] at * <;> omega)))
    | exact bz_neg (by (first | omega | (simp only [Int32.lt_iff_toInt_lt, Int32.le_iff_toInt_le, ← Int32.toInt_inj, Int32.reduceToInt] at * <;> omega)))
    | ((repeat' split) <;> first | rfl | assumption | (symm; assumption) | (exfalso; (first | omega | (simp only [Int32.lt_iff_toInt_lt, Int32.le_iff_toInt_le, ← Int32.toInt_inj, Int32.reduceToInt] at * <;> omega))))
theorem pp_X6_feed_0_9 (v0 : Int32) (v1 : Int32) (v2 : Int32) (v3 : Int32) (v4 : Int32) (v5 : Int32) (p_4 : 1 ≤ v0 ∧ v0 ≤ 5) (p_9 : 0 ≤ v1 ∧ v1 ≤ 255) (p_14 : 0 ≤ v2 ∧ v2 ≤ 255) (p_19 : 0 ≤ v3 ∧ v3 ≤ 255) (p_24 : 0 ≤ v4 ∧ v4 ≤ 255) (p_29 : 0 ≤ v5 ∧ v5 ≤ 255) (hk : v0 = 4) : (4 : Int32) = (if (1 ≤ v0 ∧ v0 ≤ 5) ∧ (0 ≤ v1 ∧ v1 ≤ 255) ∧ (0 ≤ v2 ∧ v2 ≤ 255) ∧ (0 ≤ v3 ∧ v3 ≤ 255) ∧ (0 ≤ v4 ∧ v4 ≤ 255) ∧ (0 ≤ v5 ∧ v5 ≤ 255) then v0 else -2) := by
  first
    | rfl
    | exact bz_pos (by (first | omega | (simp only [Int32.lt_iff_toInt_lt, Int32.le_iff_toInt_le, ← Int32.toInt_inj, Int32.reduceToInt] at * <;> omega)))
    | exact bz_neg (by (first | omega | (simp only [Int32.lt_iff_toInt_lt, Int32.le_iff_toInt_le, ← Int32.toInt_inj, Int32.reduceToInt] at * <;> omega)))
    | ((repeat' split) <;> first | rfl | assumption | (symm; assumption) | (exfalso; (first | omega | (simp only [Int32.lt_iff_toInt_lt, Int32.le_iff_toInt_le, ← Int32.toInt_inj, Int32.reduceToInt] at * <;> omega))))
theorem pp_X6_feed_0_10 (v0 : Int32) (v1 : Int32) (v2 : Int32) (v3 : Int32) (v4 : Int32) (v5 : Int32) (p_4 : 1 ≤ v0 ∧ v0 ≤ 5) (p_9 : 0 ≤ v1 ∧ v1 ≤ 255) (p_14 : 0 ≤ v2 ∧ v2 ≤ 255) (p_19 : 0 ≤ v3 ∧ v3 ≤ 255) (p_24 : 0 ≤ v4 ∧ v4 ≤ 255) (p_29 : 0 ≤ v5 ∧ v5 ≤ 255) (hk : v0 = 5) : (5 : Int32) = (if (1 ≤ v0 ∧ v0 ≤ 5) ∧ (0 ≤ v1 ∧ v1 ≤ 255) ∧ (0 ≤ v2 ∧ v2 ≤ 255) ∧ (0 ≤ v3 ∧ v3 ≤ 255) ∧ (0 ≤ v4 ∧ v4 ≤ 255) ∧ (0 ≤ v5 ∧ v5 ≤ 255) then v0 else -2) := by
  first
    | rfl
    | exact bz_pos (by (first | omega | (simp only [Int32.lt_iff_toInt_lt, Int32.le_iff_toInt_le, ← Int32.toInt_inj, Int32.reduceToInt] at * <;> omega)))
    | exact bz_neg (by (first | omega | (simp only [Int32.lt_iff_toInt_lt, Int32.le_iff_toInt_le, ← Int32.toInt_inj, Int32.reduceToInt] at * <;> omega)))
    | ((repeat' split) <;> first | rfl | assumption | (symm; assumption) | (exfalso; (first | omega | (simp only [Int32.lt_iff_toInt_lt, Int32.le_iff_toInt_le, ← Int32.toInt_inj, Int32.reduceToInt] at * <;> omega))))
theorem pp_X6_feed_0_11 (v0 : Int32) (v1 : Int32) (v2 : Int32) (v3 : Int32) (v4 : Int32) (v5 : Int32) (p_4 : 1 ≤ v0 ∧ v0 ≤ 5) (p_9 : 0 ≤ v1 ∧ v1 ≤ 255) (p_14 : 0 ≤ v2 ∧ v2 ≤ 255) (p_19 : 0 ≤ v3 ∧ v3 ≤ 255) (p_24 : 0 ≤ v4 ∧ v4 ≤ 255) (n_30 : ¬ (0 ≤ v5 ∧ v5 ≤ 255)) : ((-2) : Int32) = (if (1 ≤ v0 ∧ v0 ≤ 5) ∧ (0 ≤ v1 ∧ v1 ≤ 255) ∧ (0 ≤ v2 ∧ v2 ≤ 255) ∧ (0 ≤ v3 ∧ v3 ≤ 255) ∧ (0 ≤ v4 ∧ v4 ≤ 255) ∧ (0 ≤ v5 ∧ v5 ≤ 255) then v0 else -2) := by
  first
    | rfl
    | exact bz_pos (by (first | omega | (simp only [Int32.lt_iff_toInt_lt, Int32.le_iff_toInt_le, ← Int32.toInt_inj, Int32.reduceToInt] at * <;> omega)))
    | exact bz_neg (by (first | omega | (simp only [Int32.lt_iff_toInt_lt, Int32.le_iff_toInt_le, ← Int32.toInt_inj, Int32.reduceToInt] at * <;> omega)))
    | ((repeat' split) <;> first | rfl | assumption | (symm; assumption) | (exfalso; (first | omega | (simp only [Int32.lt_iff_toInt_lt, Int32.le_iff_toInt_le, ← Int32.toInt_inj, Int32.reduceToInt] at * <;> omega))))
abbrev q_X6_feed_0 (G : gG) (h0 kd mo st ro tp cd sr ir ih ss sq ce lw wo he sk na kp gb go fa ga vo : Nat) (v0 : Int32) (v1 : Int32) (v2 : Int32) (v3 : Int32) (v4 : Int32) (v5 : Int32) (A : Nat → Prop) : Array Value → State → Outcome → State → Prop := va_Qi (fun (r : Int32) (u : Unit) => match u with | _ => r = (if (1 ≤ v0 ∧ v0 ≤ 5) ∧ (0 ≤ v1 ∧ v1 ≤ 255) ∧ (0 ≤ v2 ∧ v2 ≤ 255) ∧ (0 ≤ v3 ∧ v3 ≤ 255) ∧ (0 ≤ v4 ∧ v4 ≤ 255) ∧ (0 ≤ v5 ∧ v5 ≤ 255) then v0 else -2)) (fun (u : Unit) t => match u with | _ => True) A
set_option maxHeartbeats 4000000 in
set_option maxRecDepth 100000 in
theorem c_X6_feed_0 (l : Launch) (G : gG) (h0 kd mo st ro tp cd sr ir ih ss sq ce lw wo he sk na kp gb go fa ga vo : Nat) (v0 : Int32) (v1 : Int32) (v2 : Int32) (v3 : Int32) (v4 : Int32) (v5 : Int32) (sz : Nat) : Met l yX6_feed wsX6_feed ({ frames := 2, cells := 0, slots := 0, locals := 42 }) (gPre G [.ref h0, .int v0, .int v1, .int v2, .int v3, .int v4, .int v5] [(h0, .inr (6, [.int 0, .ref kd, .ref mo, .ref st, .int 0, .ref ro, .ref tp, .int 0, .ref cd, .ref sr, .int 1, .int 0, .int 0, .ref ir, .ref ih, .ref ss, .ref sq, .ref ce, .ref lw, .int 40, .int 40, .int 0, .int 0, .ref wo, .ref he, .int 0, .int 0, .int 5, .ref sk, .ref na, .ref kp, .int 0, .int 0, .int 0, .int 0, .ref gb, .ref go, .ref fa, .ref ga, .int 0, .int 0, .ref vo])), (tp, .inl (G.2.1, 160, .inl (gPf tB 40)))] sz) (q_X6_feed_0 G h0 kd mo st ro tp cd sr ir ih ss sq ce lw wo he sk na kp gb go fa ga vo v0 v1 v2 v3 v4 v5 (va_A [(h0, .inr (6, [.int 0, .ref kd, .ref mo, .ref st, .int 0, .ref ro, .ref tp, .int 0, .ref cd, .ref sr, .int 1, .int 0, .int 0, .ref ir, .ref ih, .ref ss, .ref sq, .ref ce, .ref lw, .int 40, .int 40, .int 0, .int 0, .ref wo, .ref he, .int 0, .int 0, .int 5, .ref sk, .ref na, .ref kp, .int 0, .int 0, .int 0, .int 0, .ref gb, .ref go, .ref fa, .ref ga, .int 0, .int 0, .ref vo])), (tp, .inl (G.2.1, 160, .inl (gPf tB 40)))] sz)) 0 0 (va_A [(h0, .inr (6, [.int 0, .ref kd, .ref mo, .ref st, .int 0, .ref ro, .ref tp, .int 0, .ref cd, .ref sr, .int 1, .int 0, .int 0, .ref ir, .ref ih, .ref ss, .ref sq, .ref ce, .ref lw, .int 40, .int 40, .int 0, .int 0, .ref wo, .ref he, .int 0, .int 0, .int 5, .ref sk, .ref na, .ref kp, .int 0, .int 0, .int 0, .int 0, .ref gb, .ref go, .ref fa, .ref ga, .int 0, .int 0, .ref vo])), (tp, .inl (G.2.1, 160, .inl (gPf tB 40)))] sz) := by
  refine Met.ofW (cc := cX6_feed) (maxL := 8) (ret := (some .int)) (by decide) rfl ?_
  intro p e s m args below meth c s₁ B hml hv
  obtain ⟨rfl, hsz, hP, hK, hD0⟩ := hv
  have hx := B.exec
  have hb := B.bytes
  have hr := B.returns
  have hts := atoms_spec (ws := wsX6_feed) B.pre
  have hown : s.vm.findClass RX6 = some m.cls := findClass_of_methodNamed B.named
  have hlocks := B.notSynchronized
  subst hsz
  have hD := hD0.self (sz := s.heap.size)
  generalize hAe : va_A [(h0, .inr (6, [.int 0, .ref kd, .ref mo, .ref st, .int 0, .ref ro, .ref tp, .int 0, .ref cd, .ref sr, .int 1, .int 0, .int 0, .ref ir, .ref ih, .ref ss, .ref sq, .ref ce, .ref lw, .int 40, .int 40, .int 0, .int 0, .ref wo, .ref he, .int 0, .int 0, .int 5, .ref sk, .ref na, .ref kp, .int 0, .int 0, .int 0, .int 0, .ref gb, .ref go, .ref fa, .ref ga, .int 0, .int 0, .ref vo])), (tp, .inl (G.2.1, 160, .inl (gPf tB 40)))] s.heap.size = A at hD ⊢
  have hA : ∀ q : Nat, s.heap.size ≤ q → A q := fun q h => by rw [← hAe]; exact Or.inr h
  have hS : va_S A s.heap s.heap [] := va_S.rf
  have hP : va_P G.1 vwCl [(h0, .inr (6, [.int 0, .ref kd, .ref mo, .ref st, .int 0, .ref ro, .ref tp, .int 0, .ref cd, .ref sr, .int 1, .int 0, .int 0, .ref ir, .ref ih, .ref ss, .ref sq, .ref ce, .ref lw, .int 40, .int 40, .int 0, .int 0, .ref wo, .ref he, .int 0, .int 0, .int 5, .ref sk, .ref na, .ref kp, .int 0, .int 0, .int 0, .int 0, .ref gb, .ref go, .ref fa, .ref ga, .int 0, .int 0, .ref vo])), (tp, .inl (G.2.1, 160, .inl (gPf tB 40)))] s.heap := hP
  have hD : va_D A [(h0, .inr (6, [.int 0, .ref kd, .ref mo, .ref st, .int 0, .ref ro, .ref tp, .int 0, .ref cd, .ref sr, .int 1, .int 0, .int 0, .ref ir, .ref ih, .ref ss, .ref sq, .ref ce, .ref lw, .int 40, .int 40, .int 0, .int 0, .ref wo, .ref he, .int 0, .int 0, .int 5, .ref sk, .ref na, .ref kp, .int 0, .int 0, .int 0, .int 0, .ref gb, .ref go, .ref fa, .ref ga, .int 0, .int 0, .ref vo])), (tp, .inl (G.2.1, 160, .inl (gPf tB 40)))] := hD
  have hl := lv_entry ([.ref h0, .int v0, .int v1, .int v2, .int v3, .int v4, .int v5]) (n := 8) (Nat.le_of_ble_eq_true rfl)
  rw [lg_entry_eq]
  generalize (lg_sl ([.ref h0, .int v0, .int v1, .int v2, .int v3, .int v4, .int v5]) ++ List.replicate (8 - (lg_sl ([.ref h0, .int v0, .int v1, .int v2, .int v3, .int v4, .int v5])).length) Slot.unset).toArray = ls at hl ⊢
  have hl : lv_has ls 8 [(0, .ref h0), (1, .int v0), (2, .int v1), (3, .int v2), (4, .int v3), (5, .int v4), (6, .int v5)] := hl
  have kf80 := hts (.fieldLink RX6 80 "PebbleInShoeModel" "taped" "I") (by decide +kernel)
  have hiX6 := (by decide +kernel : ∀ w ∈ wsX60, w ∈ wsX6_feed)
  have kf22 := hts (.fieldLink RX6 22 "PebbleInShoeModel" "tape" "[I") (by decide +kernel)
  refine lv_iload_n hx hb dX6_feed_0 rfl (lv_at hl 1 rfl) ?_
  refine lv_iconst (v := 1) hx hb dX6_feed_1 (by decide) ?_
  refine lv_iconst (v := 5) hx hb dX6_feed_2 (by decide) ?_
  have hPc : va_P G.1 vwCl [] s.heap := hP.sub [] rfl
  have hDc : va_D A [] := hD.sub [] (by decide) rfl
  have hFc := va_free (wc := []) hD hS hA [] rfl
  refine va_calli (va_runS (As := [.int v0, .int 1, .int 5]) (rest := []) ⟨hx, hb, hml, hown, hts⟩ (c_X6_in l G v0 1 5 s.heap.size) (va_cwS 3 hts gX6_feed_X6_in rfl rfl rfl (by decide +kernel) ⟨Nat.le_of_ble_eq_true rfl, Nat.le_of_ble_eq_true rfl⟩) ⟨gPre_blind, fun U hU hW => gPre_of hU hW hK hPc hDc⟩ rfl rfl hl.1 rfl (lv_room (Nat.le_of_ble_eq_true rfl)) dX6_feed_3 ⟨Nat.le_of_ble_eq_true rfl, Nat.le_of_ble_eq_true rfl⟩) hS (fun q _ h => hFc q h) hFc (fun r_1 u t H locs ht hvm w_2 hB hz1 hk1 hS => ?_)
  obtain ⟨hP1, hK1, hD1⟩ := hB
  rw [ht] at hP1
  have hP1 : va_P G.1 vwCl [] H := hP1
  have hD1 : va_D (va_A [] s.heap.size) [] := hD1
  have w_2 : r_1 = bz (decide (1 ≤ v0 ∧ v0 ≤ 5)) := w_2
  obtain ⟨hP, hD⟩ := va_join (wr := [(h0, .inr (6, [.int 0, .ref kd, .ref mo, .ref st, .int 0, .ref ro, .ref tp, .int 0, .ref cd, .ref sr, .int 1, .int 0, .int 0, .ref ir, .ref ih, .ref ss, .ref sq, .ref ce, .ref lw, .int 40, .int 40, .int 0, .int 0, .ref wo, .ref he, .int 0, .int 0, .int 5, .ref sk, .ref na, .ref kp, .int 0, .int 0, .int 0, .int 0, .ref gb, .ref go, .ref fa, .ref ga, .int 0, .int 0, .ref vo])), (tp, .inl (G.2.1, 160, .inl (gPf tB 40)))]) (w1 := []) hP hD [] [0, 1] rfl rfl (by decide) (by decide) hk1 hFc hP1 hD1
  have hP : va_P G.1 vwCl [(h0, .inr (6, [.int 0, .ref kd, .ref mo, .ref st, .int 0, .ref ro, .ref tp, .int 0, .ref cd, .ref sr, .int 1, .int 0, .int 0, .ref ir, .ref ih, .ref ss, .ref sq, .ref ce, .ref lw, .int 40, .int 40, .int 0, .int 0, .ref wo, .ref he, .int 0, .int 0, .int 5, .ref sk, .ref na, .ref kp, .int 0, .int 0, .int 0, .int 0, .ref gb, .ref go, .ref fa, .ref ga, .int 0, .int 0, .ref vo])), (tp, .inl (G.2.1, 160, .inl (gPf tB 40)))] H := hP
  have hD : va_D A [(h0, .inr (6, [.int 0, .ref kd, .ref mo, .ref st, .int 0, .ref ro, .ref tp, .int 0, .ref cd, .ref sr, .int 1, .int 0, .int 0, .ref ir, .ref ih, .ref ss, .ref sq, .ref ce, .ref lw, .int 40, .int 40, .int 0, .int 0, .ref wo, .ref he, .int 0, .int 0, .int 5, .ref sk, .ref na, .ref kp, .int 0, .int 0, .int 0, .int 0, .ref gb, .ref go, .ref fa, .ref ga, .int 0, .int 0, .ref vo])), (tp, .inl (G.2.1, 160, .inl (gPf tB 40)))] := hD
  refine lv_if_eq (tgt := 47) hx hb dX6_feed_6 (by decide) (fun c_3 => ?_) (fun c_3 => ?_)
  · skip
    have n_5 : ¬ (1 ≤ v0 ∧ v0 ≤ 5) := of_decide_eq_false (bz_eq w_2 c_3)
    refine lv_bipush (v := -2) hx hb dX6_feed_47 (by decide) ?_
    have hpost : (fun (r : Int32) (u : Unit) => match u with | _ => r = (if (1 ≤ v0 ∧ v0 ≤ 5) ∧ (0 ≤ v1 ∧ v1 ≤ 255) ∧ (0 ≤ v2 ∧ v2 ≤ 255) ∧ (0 ≤ v3 ∧ v3 ≤ 255) ∧ (0 ≤ v4 ∧ v4 ≤ 255) ∧ (0 ≤ v5 ∧ v5 ≤ 255) then v0 else -2)) (-2) () := pp_X6_feed_0_1 v0 v1 v2 v3 v4 v5 n_5
    exact W.iret (v := (-2)) hx hb hr (fun t ht hW => ⟨⟨(-2), (), rfl, hpost, trivial⟩, hS.F ht⟩) hS.2.2 dX6_feed_49
  · skip
    have p_4 : 1 ≤ v0 ∧ v0 ≤ 5 := of_decide_eq_true (bz_ne w_2 c_3)
    refine lv_iload_n hx hb dX6_feed_9 rfl (lv_at hl 2 rfl) ?_
    have hPc : va_P G.1 vwCl [] H := hP.sub [] rfl
    have hDc : va_D A [] := hD.sub [] (by decide) rfl
    have hFc := va_free (wc := []) hD hS hA [] rfl
    refine va_calli (va_runS (As := [.int v1]) (rest := []) ⟨hx, hb, hml, hown, hts⟩ (c_X6_isByte l G v1 H.size) (va_cwS 1 hts gX6_feed_X6_isByte rfl rfl rfl (by decide +kernel) ⟨Nat.le_of_ble_eq_true rfl, Nat.le_of_ble_eq_true rfl⟩) ⟨gPre_blind, fun U hU hW => gPre_of hU hW hK hPc hDc⟩ rfl rfl hl.1 rfl (lv_room (Nat.le_of_ble_eq_true rfl)) dX6_feed_10 ⟨Nat.le_of_ble_eq_true rfl, Nat.le_of_ble_eq_true rfl⟩) hS (fun q _ h => hFc q h) hFc (fun r_6 u t H locs ht hvm w_7 hB hz1 hk1 hS => ?_)
    obtain ⟨hP1, hK1, hD1⟩ := hB
    rw [ht] at hP1
    have hP1 : va_P G.1 vwCl [] H := hP1
    have hD1 : va_D (va_A [] _) [] := hD1
    have w_7 : r_6 = bz (decide (0 ≤ v1 ∧ v1 ≤ 255)) := w_7
    obtain ⟨hP, hD⟩ := va_join (wr := [(h0, .inr (6, [.int 0, .ref kd, .ref mo, .ref st, .int 0, .ref ro, .ref tp, .int 0, .ref cd, .ref sr, .int 1, .int 0, .int 0, .ref ir, .ref ih, .ref ss, .ref sq, .ref ce, .ref lw, .int 40, .int 40, .int 0, .int 0, .ref wo, .ref he, .int 0, .int 0, .int 5, .ref sk, .ref na, .ref kp, .int 0, .int 0, .int 0, .int 0, .ref gb, .ref go, .ref fa, .ref ga, .int 0, .int 0, .ref vo])), (tp, .inl (G.2.1, 160, .inl (gPf tB 40)))]) (w1 := []) hP hD [] [0, 1] rfl rfl (by decide) (by decide) hk1 hFc hP1 hD1
    have hP : va_P G.1 vwCl [(h0, .inr (6, [.int 0, .ref kd, .ref mo, .ref st, .int 0, .ref ro, .ref tp, .int 0, .ref cd, .ref sr, .int 1, .int 0, .int 0, .ref ir, .ref ih, .ref ss, .ref sq, .ref ce, .ref lw, .int 40, .int 40, .int 0, .int 0, .ref wo, .ref he, .int 0, .int 0, .int 5, .ref sk, .ref na, .ref kp, .int 0, .int 0, .int 0, .int 0, .ref gb, .ref go, .ref fa, .ref ga, .int 0, .int 0, .ref vo])), (tp, .inl (G.2.1, 160, .inl (gPf tB 40)))] H := hP
    have hD : va_D A [(h0, .inr (6, [.int 0, .ref kd, .ref mo, .ref st, .int 0, .ref ro, .ref tp, .int 0, .ref cd, .ref sr, .int 1, .int 0, .int 0, .ref ir, .ref ih, .ref ss, .ref sq, .ref ce, .ref lw, .int 40, .int 40, .int 0, .int 0, .ref wo, .ref he, .int 0, .int 0, .int 5, .ref sk, .ref na, .ref kp, .int 0, .int 0, .int 0, .int 0, .ref gb, .ref go, .ref fa, .ref ga, .int 0, .int 0, .ref vo])), (tp, .inl (G.2.1, 160, .inl (gPf tB 40)))] := hD
    refine lv_if_eq (tgt := 47) hx hb dX6_feed_13 (by decide) (fun c_8 => ?_) (fun c_8 => ?_)
    · skip
      have n_10 : ¬ (0 ≤ v1 ∧ v1 ≤ 255) := of_decide_eq_false (bz_eq w_7 c_8)
      refine lv_bipush (v := -2) hx hb dX6_feed_47 (by decide) ?_
      have hpost : (fun (r : Int32) (u : Unit) => match u with | _ => r = (if (1 ≤ v0 ∧ v0 ≤ 5) ∧ (0 ≤ v1 ∧ v1 ≤ 255) ∧ (0 ≤ v2 ∧ v2 ≤ 255) ∧ (0 ≤ v3 ∧ v3 ≤ 255) ∧ (0 ≤ v4 ∧ v4 ≤ 255) ∧ (0 ≤ v5 ∧ v5 ≤ 255) then v0 else -2)) (-2) () := pp_X6_feed_0_2 v0 v1 v2 v3 v4 v5 p_4 n_10
      exact W.iret (v := (-2)) hx hb hr (fun t ht hW => ⟨⟨(-2), (), rfl, hpost, trivial⟩, hS.F ht⟩) hS.2.2 dX6_feed_49
    · skip
      have p_9 : 0 ≤ v1 ∧ v1 ≤ 255 := of_decide_eq_true (bz_ne w_7 c_8)
      refine lv_iload_n hx hb dX6_feed_16 rfl (lv_at hl 3 rfl) ?_
      have hPc : va_P G.1 vwCl [] H := hP.sub [] rfl
      have hDc : va_D A [] := hD.sub [] (by decide) rfl
      have hFc := va_free (wc := []) hD hS hA [] rfl
      refine va_calli (va_runS (As := [.int v2]) (rest := []) ⟨hx, hb, hml, hown, hts⟩ (c_X6_isByte l G v2 H.size) (va_cwS 1 hts gX6_feed_X6_isByte rfl rfl rfl (by decide +kernel) ⟨Nat.le_of_ble_eq_true rfl, Nat.le_of_ble_eq_true rfl⟩) ⟨gPre_blind, fun U hU hW => gPre_of hU hW hK hPc hDc⟩ rfl rfl hl.1 rfl (lv_room (Nat.le_of_ble_eq_true rfl)) dX6_feed_17 ⟨Nat.le_of_ble_eq_true rfl, Nat.le_of_ble_eq_true rfl⟩) hS (fun q _ h => hFc q h) hFc (fun r_11 u t H locs ht hvm w_12 hB hz1 hk1 hS => ?_)
      obtain ⟨hP1, hK1, hD1⟩ := hB
      rw [ht] at hP1
      have hP1 : va_P G.1 vwCl [] H := hP1
      have hD1 : va_D (va_A [] _) [] := hD1
      have w_12 : r_11 = bz (decide (0 ≤ v2 ∧ v2 ≤ 255)) := w_12
      obtain ⟨hP, hD⟩ := va_join (wr := [(h0, .inr (6, [.int 0, .ref kd, .ref mo, .ref st, .int 0, .ref ro, .ref tp, .int 0, .ref cd, .ref sr, .int 1, .int 0, .int 0, .ref ir, .ref ih, .ref ss, .ref sq, .ref ce, .ref lw, .int 40, .int 40, .int 0, .int 0, .ref wo, .ref he, .int 0, .int 0, .int 5, .ref sk, .ref na, .ref kp, .int 0, .int 0, .int 0, .int 0, .ref gb, .ref go, .ref fa, .ref ga, .int 0, .int 0, .ref vo])), (tp, .inl (G.2.1, 160, .inl (gPf tB 40)))]) (w1 := []) hP hD [] [0, 1] rfl rfl (by decide) (by decide) hk1 hFc hP1 hD1
      have hP : va_P G.1 vwCl [(h0, .inr (6, [.int 0, .ref kd, .ref mo, .ref st, .int 0, .ref ro, .ref tp, .int 0, .ref cd, .ref sr, .int 1, .int 0, .int 0, .ref ir, .ref ih, .ref ss, .ref sq, .ref ce, .ref lw, .int 40, .int 40, .int 0, .int 0, .ref wo, .ref he, .int 0, .int 0, .int 5, .ref sk, .ref na, .ref kp, .int 0, .int 0, .int 0, .int 0, .ref gb, .ref go, .ref fa, .ref ga, .int 0, .int 0, .ref vo])), (tp, .inl (G.2.1, 160, .inl (gPf tB 40)))] H := hP
      have hD : va_D A [(h0, .inr (6, [.int 0, .ref kd, .ref mo, .ref st, .int 0, .ref ro, .ref tp, .int 0, .ref cd, .ref sr, .int 1, .int 0, .int 0, .ref ir, .ref ih, .ref ss, .ref sq, .ref ce, .ref lw, .int 40, .int 40, .int 0, .int 0, .ref wo, .ref he, .int 0, .int 0, .int 5, .ref sk, .ref na, .ref kp, .int 0, .int 0, .int 0, .int 0, .ref gb, .ref go, .ref fa, .ref ga, .int 0, .int 0, .ref vo])), (tp, .inl (G.2.1, 160, .inl (gPf tB 40)))] := hD
      refine lv_if_eq (tgt := 47) hx hb dX6_feed_20 (by decide) (fun c_13 => ?_) (fun c_13 => ?_)
      · skip
        have n_15 : ¬ (0 ≤ v2 ∧ v2 ≤ 255) := of_decide_eq_false (bz_eq w_12 c_13)
        refine lv_bipush (v := -2) hx hb dX6_feed_47 (by decide) ?_
        have hpost : (fun (r : Int32) (u : Unit) => match u with | _ => r = (if (1 ≤ v0 ∧ v0 ≤ 5) ∧ (0 ≤ v1 ∧ v1 ≤ 255) ∧ (0 ≤ v2 ∧ v2 ≤ 255) ∧ (0 ≤ v3 ∧ v3 ≤ 255) ∧ (0 ≤ v4 ∧ v4 ≤ 255) ∧ (0 ≤ v5 ∧ v5 ≤ 255) then v0 else -2)) (-2) () := pp_X6_feed_0_3 v0 v1 v2 v3 v4 v5 p_4 p_9 n_15
        exact W.iret (v := (-2)) hx hb hr (fun t ht hW => ⟨⟨(-2), (), rfl, hpost, trivial⟩, hS.F ht⟩) hS.2.2 dX6_feed_49
      · skip
        have p_14 : 0 ≤ v2 ∧ v2 ≤ 255 := of_decide_eq_true (bz_ne w_12 c_13)
        refine lv_iload hx hb dX6_feed_23 (lv_at hl 4 rfl) ?_
        have hPc : va_P G.1 vwCl [] H := hP.sub [] rfl
        have hDc : va_D A [] := hD.sub [] (by decide) rfl
        have hFc := va_free (wc := []) hD hS hA [] rfl
        refine va_calli (va_runS (As := [.int v3]) (rest := []) ⟨hx, hb, hml, hown, hts⟩ (c_X6_isByte l G v3 H.size) (va_cwS 1 hts gX6_feed_X6_isByte rfl rfl rfl (by decide +kernel) ⟨Nat.le_of_ble_eq_true rfl, Nat.le_of_ble_eq_true rfl⟩) ⟨gPre_blind, fun U hU hW => gPre_of hU hW hK hPc hDc⟩ rfl rfl hl.1 rfl (lv_room (Nat.le_of_ble_eq_true rfl)) dX6_feed_25 ⟨Nat.le_of_ble_eq_true rfl, Nat.le_of_ble_eq_true rfl⟩) hS (fun q _ h => hFc q h) hFc (fun r_16 u t H locs ht hvm w_17 hB hz1 hk1 hS => ?_)
        obtain ⟨hP1, hK1, hD1⟩ := hB
        rw [ht] at hP1
        have hP1 : va_P G.1 vwCl [] H := hP1
        have hD1 : va_D (va_A [] _) [] := hD1
        have w_17 : r_16 = bz (decide (0 ≤ v3 ∧ v3 ≤ 255)) := w_17
        obtain ⟨hP, hD⟩ := va_join (wr := [(h0, .inr (6, [.int 0, .ref kd, .ref mo, .ref st, .int 0, .ref ro, .ref tp, .int 0, .ref cd, .ref sr, .int 1, .int 0, .int 0, .ref ir, .ref ih, .ref ss, .ref sq, .ref ce, .ref lw, .int 40, .int 40, .int 0, .int 0, .ref wo, .ref he, .int 0, .int 0, .int 5, .ref sk, .ref na, .ref kp, .int 0, .int 0, .int 0, .int 0, .ref gb, .ref go, .ref fa, .ref ga, .int 0, .int 0, .ref vo])), (tp, .inl (G.2.1, 160, .inl (gPf tB 40)))]) (w1 := []) hP hD [] [0, 1] rfl rfl (by decide) (by decide) hk1 hFc hP1 hD1
        have hP : va_P G.1 vwCl [(h0, .inr (6, [.int 0, .ref kd, .ref mo, .ref st, .int 0, .ref ro, .ref tp, .int 0, .ref cd, .ref sr, .int 1, .int 0, .int 0, .ref ir, .ref ih, .ref ss, .ref sq, .ref ce, .ref lw, .int 40, .int 40, .int 0, .int 0, .ref wo, .ref he, .int 0, .int 0, .int 5, .ref sk, .ref na, .ref kp, .int 0, .int 0, .int 0, .int 0, .ref gb, .ref go, .ref fa, .ref ga, .int 0, .int 0, .ref vo])), (tp, .inl (G.2.1, 160, .inl (gPf tB 40)))] H := hP
        have hD : va_D A [(h0, .inr (6, [.int 0, .ref kd, .ref mo, .ref st, .int 0, .ref ro, .ref tp, .int 0, .ref cd, .ref sr, .int 1, .int 0, .int 0, .ref ir, .ref ih, .ref ss, .ref sq, .ref ce, .ref lw, .int 40, .int 40, .int 0, .int 0, .ref wo, .ref he, .int 0, .int 0, .int 5, .ref sk, .ref na, .ref kp, .int 0, .int 0, .int 0, .int 0, .ref gb, .ref go, .ref fa, .ref ga, .int 0, .int 0, .ref vo])), (tp, .inl (G.2.1, 160, .inl (gPf tB 40)))] := hD
        refine lv_if_eq (tgt := 47) hx hb dX6_feed_28 (by decide) (fun c_18 => ?_) (fun c_18 => ?_)
        · skip
          have n_20 : ¬ (0 ≤ v3 ∧ v3 ≤ 255) := of_decide_eq_false (bz_eq w_17 c_18)
          refine lv_bipush (v := -2) hx hb dX6_feed_47 (by decide) ?_
          have hpost : (fun (r : Int32) (u : Unit) => match u with | _ => r = (if (1 ≤ v0 ∧ v0 ≤ 5) ∧ (0 ≤ v1 ∧ v1 ≤ 255) ∧ (0 ≤ v2 ∧ v2 ≤ 255) ∧ (0 ≤ v3 ∧ v3 ≤ 255) ∧ (0 ≤ v4 ∧ v4 ≤ 255) ∧ (0 ≤ v5 ∧ v5 ≤ 255) then v0 else -2)) (-2) () := pp_X6_feed_0_4 v0 v1 v2 v3 v4 v5 p_4 p_9 p_14 n_20
          exact W.iret (v := (-2)) hx hb hr (fun t ht hW => ⟨⟨(-2), (), rfl, hpost, trivial⟩, hS.F ht⟩) hS.2.2 dX6_feed_49
        · skip
          have p_19 : 0 ≤ v3 ∧ v3 ≤ 255 := of_decide_eq_true (bz_ne w_17 c_18)
          refine lv_iload hx hb dX6_feed_31 (lv_at hl 5 rfl) ?_
          have hPc : va_P G.1 vwCl [] H := hP.sub [] rfl
          have hDc : va_D A [] := hD.sub [] (by decide) rfl
          have hFc := va_free (wc := []) hD hS hA [] rfl
          refine va_calli (va_runS (As := [.int v4]) (rest := []) ⟨hx, hb, hml, hown, hts⟩ (c_X6_isByte l G v4 H.size) (va_cwS 1 hts gX6_feed_X6_isByte rfl rfl rfl (by decide +kernel) ⟨Nat.le_of_ble_eq_true rfl, Nat.le_of_ble_eq_true rfl⟩) ⟨gPre_blind, fun U hU hW => gPre_of hU hW hK hPc hDc⟩ rfl rfl hl.1 rfl (lv_room (Nat.le_of_ble_eq_true rfl)) dX6_feed_33 ⟨Nat.le_of_ble_eq_true rfl, Nat.le_of_ble_eq_true rfl⟩) hS (fun q _ h => hFc q h) hFc (fun r_21 u t H locs ht hvm w_22 hB hz1 hk1 hS => ?_)
          obtain ⟨hP1, hK1, hD1⟩ := hB
          rw [ht] at hP1
          have hP1 : va_P G.1 vwCl [] H := hP1
          have hD1 : va_D (va_A [] _) [] := hD1
          have w_22 : r_21 = bz (decide (0 ≤ v4 ∧ v4 ≤ 255)) := w_22
          obtain ⟨hP, hD⟩ := va_join (wr := [(h0, .inr (6, [.int 0, .ref kd, .ref mo, .ref st, .int 0, .ref ro, .ref tp, .int 0, .ref cd, .ref sr, .int 1, .int 0, .int 0, .ref ir, .ref ih, .ref ss, .ref sq, .ref ce, .ref lw, .int 40, .int 40, .int 0, .int 0, .ref wo, .ref he, .int 0, .int 0, .int 5, .ref sk, .ref na, .ref kp, .int 0, .int 0, .int 0, .int 0, .ref gb, .ref go, .ref fa, .ref ga, .int 0, .int 0, .ref vo])), (tp, .inl (G.2.1, 160, .inl (gPf tB 40)))]) (w1 := []) hP hD [] [0, 1] rfl rfl (by decide) (by decide) hk1 hFc hP1 hD1
          have hP : va_P G.1 vwCl [(h0, .inr (6, [.int 0, .ref kd, .ref mo, .ref st, .int 0, .ref ro, .ref tp, .int 0, .ref cd, .ref sr, .int 1, .int 0, .int 0, .ref ir, .ref ih, .ref ss, .ref sq, .ref ce, .ref lw, .int 40, .int 40, .int 0, .int 0, .ref wo, .ref he, .int 0, .int 0, .int 5, .ref sk, .ref na, .ref kp, .int 0, .int 0, .int 0, .int 0, .ref gb, .ref go, .ref fa, .ref ga, .int 0, .int 0, .ref vo])), (tp, .inl (G.2.1, 160, .inl (gPf tB 40)))] H := hP
          have hD : va_D A [(h0, .inr (6, [.int 0, .ref kd, .ref mo, .ref st, .int 0, .ref ro, .ref tp, .int 0, .ref cd, .ref sr, .int 1, .int 0, .int 0, .ref ir, .ref ih, .ref ss, .ref sq, .ref ce, .ref lw, .int 40, .int 40, .int 0, .int 0, .ref wo, .ref he, .int 0, .int 0, .int 5, .ref sk, .ref na, .ref kp, .int 0, .int 0, .int 0, .int 0, .ref gb, .ref go, .ref fa, .ref ga, .int 0, .int 0, .ref vo])), (tp, .inl (G.2.1, 160, .inl (gPf tB 40)))] := hD
          refine lv_if_eq (tgt := 47) hx hb dX6_feed_36 (by decide) (fun c_23 => ?_) (fun c_23 => ?_)
          · skip
            have n_25 : ¬ (0 ≤ v4 ∧ v4 ≤ 255) := of_decide_eq_false (bz_eq w_22 c_23)
            refine lv_bipush (v := -2) hx hb dX6_feed_47 (by decide) ?_
            have hpost : (fun (r : Int32) (u : Unit) => match u with | _ => r = (if (1 ≤ v0 ∧ v0 ≤ 5) ∧ (0 ≤ v1 ∧ v1 ≤ 255) ∧ (0 ≤ v2 ∧ v2 ≤ 255) ∧ (0 ≤ v3 ∧ v3 ≤ 255) ∧ (0 ≤ v4 ∧ v4 ≤ 255) ∧ (0 ≤ v5 ∧ v5 ≤ 255) then v0 else -2)) (-2) () := pp_X6_feed_0_5 v0 v1 v2 v3 v4 v5 p_4 p_9 p_14 p_19 n_25
            exact W.iret (v := (-2)) hx hb hr (fun t ht hW => ⟨⟨(-2), (), rfl, hpost, trivial⟩, hS.F ht⟩) hS.2.2 dX6_feed_49
          · skip
            have p_24 : 0 ≤ v4 ∧ v4 ≤ 255 := of_decide_eq_true (bz_ne w_22 c_23)
            refine lv_iload hx hb dX6_feed_39 (lv_at hl 6 rfl) ?_
            have hPc : va_P G.1 vwCl [] H := hP.sub [] rfl
            have hDc : va_D A [] := hD.sub [] (by decide) rfl
            have hFc := va_free (wc := []) hD hS hA [] rfl
            refine va_calli (va_runS (As := [.int v5]) (rest := []) ⟨hx, hb, hml, hown, hts⟩ (c_X6_isByte l G v5 H.size) (va_cwS 1 hts gX6_feed_X6_isByte rfl rfl rfl (by decide +kernel) ⟨Nat.le_of_ble_eq_true rfl, Nat.le_of_ble_eq_true rfl⟩) ⟨gPre_blind, fun U hU hW => gPre_of hU hW hK hPc hDc⟩ rfl rfl hl.1 rfl (lv_room (Nat.le_of_ble_eq_true rfl)) dX6_feed_41 ⟨Nat.le_of_ble_eq_true rfl, Nat.le_of_ble_eq_true rfl⟩) hS (fun q _ h => hFc q h) hFc (fun r_26 u t H locs ht hvm w_27 hB hz1 hk1 hS => ?_)
            obtain ⟨hP1, hK1, hD1⟩ := hB
            rw [ht] at hP1
            have hP1 : va_P G.1 vwCl [] H := hP1
            have hD1 : va_D (va_A [] _) [] := hD1
            have w_27 : r_26 = bz (decide (0 ≤ v5 ∧ v5 ≤ 255)) := w_27
            obtain ⟨hP, hD⟩ := va_join (wr := [(h0, .inr (6, [.int 0, .ref kd, .ref mo, .ref st, .int 0, .ref ro, .ref tp, .int 0, .ref cd, .ref sr, .int 1, .int 0, .int 0, .ref ir, .ref ih, .ref ss, .ref sq, .ref ce, .ref lw, .int 40, .int 40, .int 0, .int 0, .ref wo, .ref he, .int 0, .int 0, .int 5, .ref sk, .ref na, .ref kp, .int 0, .int 0, .int 0, .int 0, .ref gb, .ref go, .ref fa, .ref ga, .int 0, .int 0, .ref vo])), (tp, .inl (G.2.1, 160, .inl (gPf tB 40)))]) (w1 := []) hP hD [] [0, 1] rfl rfl (by decide) (by decide) hk1 hFc hP1 hD1
            have hP : va_P G.1 vwCl [(h0, .inr (6, [.int 0, .ref kd, .ref mo, .ref st, .int 0, .ref ro, .ref tp, .int 0, .ref cd, .ref sr, .int 1, .int 0, .int 0, .ref ir, .ref ih, .ref ss, .ref sq, .ref ce, .ref lw, .int 40, .int 40, .int 0, .int 0, .ref wo, .ref he, .int 0, .int 0, .int 5, .ref sk, .ref na, .ref kp, .int 0, .int 0, .int 0, .int 0, .ref gb, .ref go, .ref fa, .ref ga, .int 0, .int 0, .ref vo])), (tp, .inl (G.2.1, 160, .inl (gPf tB 40)))] H := hP
            have hD : va_D A [(h0, .inr (6, [.int 0, .ref kd, .ref mo, .ref st, .int 0, .ref ro, .ref tp, .int 0, .ref cd, .ref sr, .int 1, .int 0, .int 0, .ref ir, .ref ih, .ref ss, .ref sq, .ref ce, .ref lw, .int 40, .int 40, .int 0, .int 0, .ref wo, .ref he, .int 0, .int 0, .int 5, .ref sk, .ref na, .ref kp, .int 0, .int 0, .int 0, .int 0, .ref gb, .ref go, .ref fa, .ref ga, .int 0, .int 0, .ref vo])), (tp, .inl (G.2.1, 160, .inl (gPf tB 40)))] := hD
            refine lv_if_ne (tgt := 50) hx hb dX6_feed_44 (by decide) (fun c_28 => ?_) (fun c_28 => ?_)
            · skip
              have p_29 : 0 ≤ v5 ∧ v5 ≤ 255 := of_decide_eq_true (bz_ne w_27 c_28)
              rcases g15b (x := v0) (by assumption) with hk | hk | hk | hk | hk
              · skip
                refine lv_aload_n hx hb dX6_feed_50 rfl (lv_at hl 0 rfl) ?_
                refine va_get (D := G.1) (ci := 6) (v := .int 0) (C := RX6) (T := TX6) (N := 42) hx hb hts hiX6 hown hK hP 0 rfl rfl 7 (by decide) kf80 (fun _ h9 => h9) rfl dX6_feed_51 ?_
                refine lv_iload_n hx hb dX6_feed_54 rfl (lv_at hl 1 rfl) ?_
                refine lv_iadd hx hb dX6_feed_55 ?_
                refine lv_sipush (v := 160) hx hb dX6_feed_56 (by decide) ?_
                refine lv_icmp_le (tgt := 65) hx hb dX6_feed_59 (by decide) (fun c_31 => ?_) (fun c_31 => ?_)
                rotate_left
                · exact absurd (by rw [hk]; decide) c_31
                refine lv_iconst (v := 0) hx hb dX6_feed_65 (by decide) ?_
                refine lv_istore (lv' := [(7, .int 0), (0, .ref h0), (1, .int v0), (2, .int v1), (3, .int v2), (4, .int v3), (5, .int v4), (6, .int v5)]) hx hb dX6_feed_66 hl (by decide) rfl (fun ls hl => ?_)
                refine lv_iload hx hb dX6_feed_68 (lv_at hl 0 rfl) ?_
                refine lv_iload_n hx hb dX6_feed_70 rfl (lv_at hl 2 rfl) ?_
                refine lv_icmp_ge (tgt := 142) hx hb dX6_feed_71 (by decide) (fun c_32 => ?_) (fun c_32 => ?_)
                · exact absurd c_32 (by rw [hk]; decide)
                refine lv_aload_n hx hb dX6_feed_74 rfl (lv_at hl 1 rfl) ?_
                refine va_get (D := G.1) (ci := 6) (v := .ref tp) (C := RX6) (T := TX6) (N := 42) hx hb hts hiX6 hown hK hP 0 rfl rfl 6 (by decide) kf22 (fun _ h9 => h9) rfl dX6_feed_75 ?_
                refine lv_aload_n hx hb dX6_feed_78 rfl (lv_at hl 1 rfl) ?_
                refine va_get (D := G.1) (ci := 6) (v := .int 0) (C := RX6) (T := TX6) (N := 42) hx hb hts hiX6 hown hK hP 0 rfl rfl 7 (by decide) kf80 (fun _ h9 => h9) rfl dX6_feed_79 ?_
                refine lv_iload hx hb dX6_feed_82 (lv_at hl 0 rfl) ?_
                refine lv_if_ne (tgt := 91) hx hb dX6_feed_84 (by decide) (fun c_33 => ?_) (fun c_33 => ?_)
                · exact absurd (by decide) c_33
                refine lv_iload_n hx hb dX6_feed_87 rfl (lv_at hl 3 rfl) ?_
                refine lv_goto (tgt := 125) hx hb dX6_feed_88 (by decide) ?_
                refine va_iast (D := G.1) hx hb hK hP hD hS 1 0 rfl rfl (i := 0) (x := v1) (gIn (by decide)) dX6_feed_125 (fun H locs hP hD hS => ?_)
                have hP : va_P G.1 vwCl [(h0, .inr (6, [.int 0, .ref kd, .ref mo, .ref st, .int 0, .ref ro, .ref tp, .int 0, .ref cd, .ref sr, .int 1, .int 0, .int 0, .ref ir, .ref ih, .ref ss, .ref sq, .ref ce, .ref lw, .int 40, .int 40, .int 0, .int 0, .ref wo, .ref he, .int 0, .int 0, .int 5, .ref sk, .ref na, .ref kp, .int 0, .int 0, .int 0, .int 0, .ref gb, .ref go, .ref fa, .ref ga, .int 0, .int 0, .ref vo])), (tp, .inl (G.2.1, 160, .inl (upd (gPf tB 40) 0 v1)))] H := hP
                have hD : va_D A [(h0, .inr (6, [.int 0, .ref kd, .ref mo, .ref st, .int 0, .ref ro, .ref tp, .int 0, .ref cd, .ref sr, .int 1, .int 0, .int 0, .ref ir, .ref ih, .ref ss, .ref sq, .ref ce, .ref lw, .int 40, .int 40, .int 0, .int 0, .ref wo, .ref he, .int 0, .int 0, .int 5, .ref sk, .ref na, .ref kp, .int 0, .int 0, .int 0, .int 0, .ref gb, .ref go, .ref fa, .ref ga, .int 0, .int 0, .ref vo])), (tp, .inl (G.2.1, 160, .inl (upd (gPf tB 40) 0 v1)))] := hD
                refine lv_aload_n hx hb dX6_feed_126 rfl (lv_at hl 1 rfl) ?_
                refine lv_dup hx hb dX6_feed_127 rfl ?_
                refine va_get (D := G.1) (ci := 6) (v := .int 0) (C := RX6) (T := TX6) (N := 42) hx hb hts hiX6 hown hK hP 0 rfl rfl 7 (by decide) kf80 (fun _ h9 => h9) rfl dX6_feed_128 ?_
                refine lv_iconst (v := 1) hx hb dX6_feed_131 (by decide) ?_
                refine lv_iadd hx hb dX6_feed_132 ?_
                refine lv_topi (fun v_34 ev_34 => ?_)
                have ev_34 : v_34 = 1 := ev_34.trans (by decide)
                subst ev_34
                refine va_put (D := G.1) (ci := 6) (v := .int 1) (ty := .int) (C := RX6) (T := TX6) (N := 42) hx hb hts hiX6 tyX6 tyX6_ok nmX6 hown hK hP hD hS 0 rfl rfl 7 (by decide) kf80 (fun _ h9 => h9) rfl (by decide +kernel) rfl rfl (Nat.le_of_ble_eq_true rfl) dX6_feed_133 (fun H locs hP hD hS => ?_)
                have hP : va_P G.1 vwCl [(h0, .inr (6, [.int 0, .ref kd, .ref mo, .ref st, .int 0, .ref ro, .ref tp, .int 1, .ref cd, .ref sr, .int 1, .int 0, .int 0, .ref ir, .ref ih, .ref ss, .ref sq, .ref ce, .ref lw, .int 40, .int 40, .int 0, .int 0, .ref wo, .ref he, .int 0, .int 0, .int 5, .ref sk, .ref na, .ref kp, .int 0, .int 0, .int 0, .int 0, .ref gb, .ref go, .ref fa, .ref ga, .int 0, .int 0, .ref vo])), (tp, .inl (G.2.1, 160, .inl (upd (gPf tB 40) 0 v1)))] H := hP
                have hD : va_D A [(h0, .inr (6, [.int 0, .ref kd, .ref mo, .ref st, .int 0, .ref ro, .ref tp, .int 1, .ref cd, .ref sr, .int 1, .int 0, .int 0, .ref ir, .ref ih, .ref ss, .ref sq, .ref ce, .ref lw, .int 40, .int 40, .int 0, .int 0, .ref wo, .ref he, .int 0, .int 0, .int 5, .ref sk, .ref na, .ref kp, .int 0, .int 0, .int 0, .int 0, .ref gb, .ref go, .ref fa, .ref ga, .int 0, .int 0, .ref vo])), (tp, .inl (G.2.1, 160, .inl (upd (gPf tB 40) 0 v1)))] := hD
                refine lv_iinc (v := 1) (lv' := [(7, .int 1), (0, .ref h0), (1, .int v0), (2, .int v1), (3, .int v2), (4, .int v3), (5, .int v4), (6, .int v5)]) hx hb dX6_feed_136 hl (k := 0) rfl (by decide) (by decide) rfl (fun ls hl => ?_)
                refine lv_goto (tgt := 68) hx hb dX6_feed_139 (by decide) ?_
                refine lv_iload hx hb dX6_feed_68 (lv_at hl 0 rfl) ?_
                refine lv_iload_n hx hb dX6_feed_70 rfl (lv_at hl 2 rfl) ?_
                refine lv_icmp_ge (tgt := 142) hx hb dX6_feed_71 (by decide) (fun c_35 => ?_) (fun c_35 => ?_)
                rotate_left
                · exact absurd (by rw [hk]; decide) c_35
                refine lv_aload_n hx hb dX6_feed_142 rfl (lv_at hl 1 rfl) ?_
                refine va_get (D := G.1) (ci := 6) (v := .int 1) (C := RX6) (T := TX6) (N := 42) hx hb hts hiX6 hown hK hP 0 rfl rfl 7 (by decide) kf80 (fun _ h9 => h9) rfl dX6_feed_143 ?_
                have hpost : (fun (r : Int32) (u : Unit) => match u with | _ => r = (if (1 ≤ v0 ∧ v0 ≤ 5) ∧ (0 ≤ v1 ∧ v1 ≤ 255) ∧ (0 ≤ v2 ∧ v2 ≤ 255) ∧ (0 ≤ v3 ∧ v3 ≤ 255) ∧ (0 ≤ v4 ∧ v4 ≤ 255) ∧ (0 ≤ v5 ∧ v5 ≤ 255) then v0 else -2)) 1 () := pp_X6_feed_0_6 v0 v1 v2 v3 v4 v5 p_4 p_9 p_14 p_19 p_24 p_29 hk
                exact W.iret (v := 1) hx hb hr (fun t ht hW => ⟨⟨1, (), rfl, hpost, trivial⟩, hS.F ht⟩) hS.2.2 dX6_feed_146
              · skip
                refine lv_aload_n hx hb dX6_feed_50 rfl (lv_at hl 0 rfl) ?_
                refine va_get (D := G.1) (ci := 6) (v := .int 0) (C := RX6) (T := TX6) (N := 42) hx hb hts hiX6 hown hK hP 0 rfl rfl 7 (by decide) kf80 (fun _ h9 => h9) rfl dX6_feed_51 ?_
                refine lv_iload_n hx hb dX6_feed_54 rfl (lv_at hl 1 rfl) ?_
                refine lv_iadd hx hb dX6_feed_55 ?_
                refine lv_sipush (v := 160) hx hb dX6_feed_56 (by decide) ?_
                refine lv_icmp_le (tgt := 65) hx hb dX6_feed_59 (by decide) (fun c_36 => ?_) (fun c_36 => ?_)
                rotate_left
                · exact absurd (by rw [hk]; decide) c_36
                refine lv_iconst (v := 0) hx hb dX6_feed_65 (by decide) ?_
                refine lv_istore (lv' := [(7, .int 0), (0, .ref h0), (1, .int v0), (2, .int v1), (3, .int v2), (4, .int v3), (5, .int v4), (6, .int v5)]) hx hb dX6_feed_66 hl (by decide) rfl (fun ls hl => ?_)
                refine lv_iload hx hb dX6_feed_68 (lv_at hl 0 rfl) ?_
                refine lv_iload_n hx hb dX6_feed_70 rfl (lv_at hl 2 rfl) ?_
                refine lv_icmp_ge (tgt := 142) hx hb dX6_feed_71 (by decide) (fun c_37 => ?_) (fun c_37 => ?_)
                · exact absurd c_37 (by rw [hk]; decide)
                refine lv_aload_n hx hb dX6_feed_74 rfl (lv_at hl 1 rfl) ?_
                refine va_get (D := G.1) (ci := 6) (v := .ref tp) (C := RX6) (T := TX6) (N := 42) hx hb hts hiX6 hown hK hP 0 rfl rfl 6 (by decide) kf22 (fun _ h9 => h9) rfl dX6_feed_75 ?_
                refine lv_aload_n hx hb dX6_feed_78 rfl (lv_at hl 1 rfl) ?_
                refine va_get (D := G.1) (ci := 6) (v := .int 0) (C := RX6) (T := TX6) (N := 42) hx hb hts hiX6 hown hK hP 0 rfl rfl 7 (by decide) kf80 (fun _ h9 => h9) rfl dX6_feed_79 ?_
                refine lv_iload hx hb dX6_feed_82 (lv_at hl 0 rfl) ?_
                refine lv_if_ne (tgt := 91) hx hb dX6_feed_84 (by decide) (fun c_38 => ?_) (fun c_38 => ?_)
                · exact absurd (by decide) c_38
                refine lv_iload_n hx hb dX6_feed_87 rfl (lv_at hl 3 rfl) ?_
                refine lv_goto (tgt := 125) hx hb dX6_feed_88 (by decide) ?_
                refine va_iast (D := G.1) hx hb hK hP hD hS 1 0 rfl rfl (i := 0) (x := v1) (gIn (by decide)) dX6_feed_125 (fun H locs hP hD hS => ?_)
                have hP : va_P G.1 vwCl [(h0, .inr (6, [.int 0, .ref kd, .ref mo, .ref st, .int 0, .ref ro, .ref tp, .int 0, .ref cd, .ref sr, .int 1, .int 0, .int 0, .ref ir, .ref ih, .ref ss, .ref sq, .ref ce, .ref lw, .int 40, .int 40, .int 0, .int 0, .ref wo, .ref he, .int 0, .int 0, .int 5, .ref sk, .ref na, .ref kp, .int 0, .int 0, .int 0, .int 0, .ref gb, .ref go, .ref fa, .ref ga, .int 0, .int 0, .ref vo])), (tp, .inl (G.2.1, 160, .inl (upd (gPf tB 40) 0 v1)))] H := hP
                have hD : va_D A [(h0, .inr (6, [.int 0, .ref kd, .ref mo, .ref st, .int 0, .ref ro, .ref tp, .int 0, .ref cd, .ref sr, .int 1, .int 0, .int 0, .ref ir, .ref ih, .ref ss, .ref sq, .ref ce, .ref lw, .int 40, .int 40, .int 0, .int 0, .ref wo, .ref he, .int 0, .int 0, .int 5, .ref sk, .ref na, .ref kp, .int 0, .int 0, .int 0, .int 0, .ref gb, .ref go, .ref fa, .ref ga, .int 0, .int 0, .ref vo])), (tp, .inl (G.2.1, 160, .inl (upd (gPf tB 40) 0 v1)))] := hD
                refine lv_aload_n hx hb dX6_feed_126 rfl (lv_at hl 1 rfl) ?_
                refine lv_dup hx hb dX6_feed_127 rfl ?_
                refine va_get (D := G.1) (ci := 6) (v := .int 0) (C := RX6) (T := TX6) (N := 42) hx hb hts hiX6 hown hK hP 0 rfl rfl 7 (by decide) kf80 (fun _ h9 => h9) rfl dX6_feed_128 ?_
                refine lv_iconst (v := 1) hx hb dX6_feed_131 (by decide) ?_
                refine lv_iadd hx hb dX6_feed_132 ?_
                refine lv_topi (fun v_39 ev_39 => ?_)
                have ev_39 : v_39 = 1 := ev_39.trans (by decide)
                subst ev_39
                refine va_put (D := G.1) (ci := 6) (v := .int 1) (ty := .int) (C := RX6) (T := TX6) (N := 42) hx hb hts hiX6 tyX6 tyX6_ok nmX6 hown hK hP hD hS 0 rfl rfl 7 (by decide) kf80 (fun _ h9 => h9) rfl (by decide +kernel) rfl rfl (Nat.le_of_ble_eq_true rfl) dX6_feed_133 (fun H locs hP hD hS => ?_)
                have hP : va_P G.1 vwCl [(h0, .inr (6, [.int 0, .ref kd, .ref mo, .ref st, .int 0, .ref ro, .ref tp, .int 1, .ref cd, .ref sr, .int 1, .int 0, .int 0, .ref ir, .ref ih, .ref ss, .ref sq, .ref ce, .ref lw, .int 40, .int 40, .int 0, .int 0, .ref wo, .ref he, .int 0, .int 0, .int 5, .ref sk, .ref na, .ref kp, .int 0, .int 0, .int 0, .int 0, .ref gb, .ref go, .ref fa, .ref ga, .int 0, .int 0, .ref vo])), (tp, .inl (G.2.1, 160, .inl (upd (gPf tB 40) 0 v1)))] H := hP
                have hD : va_D A [(h0, .inr (6, [.int 0, .ref kd, .ref mo, .ref st, .int 0, .ref ro, .ref tp, .int 1, .ref cd, .ref sr, .int 1, .int 0, .int 0, .ref ir, .ref ih, .ref ss, .ref sq, .ref ce, .ref lw, .int 40, .int 40, .int 0, .int 0, .ref wo, .ref he, .int 0, .int 0, .int 5, .ref sk, .ref na, .ref kp, .int 0, .int 0, .int 0, .int 0, .ref gb, .ref go, .ref fa, .ref ga, .int 0, .int 0, .ref vo])), (tp, .inl (G.2.1, 160, .inl (upd (gPf tB 40) 0 v1)))] := hD
                refine lv_iinc (v := 1) (lv' := [(7, .int 1), (0, .ref h0), (1, .int v0), (2, .int v1), (3, .int v2), (4, .int v3), (5, .int v4), (6, .int v5)]) hx hb dX6_feed_136 hl (k := 0) rfl (by decide) (by decide) rfl (fun ls hl => ?_)
                refine lv_goto (tgt := 68) hx hb dX6_feed_139 (by decide) ?_
                refine lv_iload hx hb dX6_feed_68 (lv_at hl 0 rfl) ?_
                refine lv_iload_n hx hb dX6_feed_70 rfl (lv_at hl 2 rfl) ?_
                refine lv_icmp_ge (tgt := 142) hx hb dX6_feed_71 (by decide) (fun c_40 => ?_) (fun c_40 => ?_)
                · exact absurd c_40 (by rw [hk]; decide)
                refine lv_aload_n hx hb dX6_feed_74 rfl (lv_at hl 1 rfl) ?_
                refine va_get (D := G.1) (ci := 6) (v := .ref tp) (C := RX6) (T := TX6) (N := 42) hx hb hts hiX6 hown hK hP 0 rfl rfl 6 (by decide) kf22 (fun _ h9 => h9) rfl dX6_feed_75 ?_
                refine lv_aload_n hx hb dX6_feed_78 rfl (lv_at hl 1 rfl) ?_
                refine va_get (D := G.1) (ci := 6) (v := .int 1) (C := RX6) (T := TX6) (N := 42) hx hb hts hiX6 hown hK hP 0 rfl rfl 7 (by decide) kf80 (fun _ h9 => h9) rfl dX6_feed_79 ?_
                refine lv_iload hx hb dX6_feed_82 (lv_at hl 0 rfl) ?_
                refine lv_if_ne (tgt := 91) hx hb dX6_feed_84 (by decide) (fun c_41 => ?_) (fun c_41 => ?_)
                rotate_left
                · exact absurd c_41 (by decide)
                refine lv_iload hx hb dX6_feed_91 (lv_at hl 0 rfl) ?_
                refine lv_iconst (v := 1) hx hb dX6_feed_93 (by decide) ?_
                refine lv_icmp_ne (tgt := 101) hx hb dX6_feed_94 (by decide) (fun c_42 => ?_) (fun c_42 => ?_)
                · exact absurd (by decide) c_42
                refine lv_iload_n hx hb dX6_feed_97 rfl (lv_at hl 4 rfl) ?_
                refine lv_goto (tgt := 125) hx hb dX6_feed_98 (by decide) ?_
                refine va_iast (D := G.1) hx hb hK hP hD hS 1 0 rfl rfl (i := 1) (x := v2) (gIn (by decide)) dX6_feed_125 (fun H locs hP hD hS => ?_)
                have hP : va_P G.1 vwCl [(h0, .inr (6, [.int 0, .ref kd, .ref mo, .ref st, .int 0, .ref ro, .ref tp, .int 1, .ref cd, .ref sr, .int 1, .int 0, .int 0, .ref ir, .ref ih, .ref ss, .ref sq, .ref ce, .ref lw, .int 40, .int 40, .int 0, .int 0, .ref wo, .ref he, .int 0, .int 0, .int 5, .ref sk, .ref na, .ref kp, .int 0, .int 0, .int 0, .int 0, .ref gb, .ref go, .ref fa, .ref ga, .int 0, .int 0, .ref vo])), (tp, .inl (G.2.1, 160, .inl (upd (upd (gPf tB 40) 0 v1) 1 v2)))] H := hP
                have hD : va_D A [(h0, .inr (6, [.int 0, .ref kd, .ref mo, .ref st, .int 0, .ref ro, .ref tp, .int 1, .ref cd, .ref sr, .int 1, .int 0, .int 0, .ref ir, .ref ih, .ref ss, .ref sq, .ref ce, .ref lw, .int 40, .int 40, .int 0, .int 0, .ref wo, .ref he, .int 0, .int 0, .int 5, .ref sk, .ref na, .ref kp, .int 0, .int 0, .int 0, .int 0, .ref gb, .ref go, .ref fa, .ref ga, .int 0, .int 0, .ref vo])), (tp, .inl (G.2.1, 160, .inl (upd (upd (gPf tB 40) 0 v1) 1 v2)))] := hD
                refine lv_aload_n hx hb dX6_feed_126 rfl (lv_at hl 1 rfl) ?_
                refine lv_dup hx hb dX6_feed_127 rfl ?_
                refine va_get (D := G.1) (ci := 6) (v := .int 1) (C := RX6) (T := TX6) (N := 42) hx hb hts hiX6 hown hK hP 0 rfl rfl 7 (by decide) kf80 (fun _ h9 => h9) rfl dX6_feed_128 ?_
                refine lv_iconst (v := 1) hx hb dX6_feed_131 (by decide) ?_
                refine lv_iadd hx hb dX6_feed_132 ?_
                refine lv_topi (fun v_43 ev_43 => ?_)
                have ev_43 : v_43 = 2 := ev_43.trans (by decide)
                subst ev_43
                refine va_put (D := G.1) (ci := 6) (v := .int 2) (ty := .int) (C := RX6) (T := TX6) (N := 42) hx hb hts hiX6 tyX6 tyX6_ok nmX6 hown hK hP hD hS 0 rfl rfl 7 (by decide) kf80 (fun _ h9 => h9) rfl (by decide +kernel) rfl rfl (Nat.le_of_ble_eq_true rfl) dX6_feed_133 (fun H locs hP hD hS => ?_)
                have hP : va_P G.1 vwCl [(h0, .inr (6, [.int 0, .ref kd, .ref mo, .ref st, .int 0, .ref ro, .ref tp, .int 2, .ref cd, .ref sr, .int 1, .int 0, .int 0, .ref ir, .ref ih, .ref ss, .ref sq, .ref ce, .ref lw, .int 40, .int 40, .int 0, .int 0, .ref wo, .ref he, .int 0, .int 0, .int 5, .ref sk, .ref na, .ref kp, .int 0, .int 0, .int 0, .int 0, .ref gb, .ref go, .ref fa, .ref ga, .int 0, .int 0, .ref vo])), (tp, .inl (G.2.1, 160, .inl (upd (upd (gPf tB 40) 0 v1) 1 v2)))] H := hP
                have hD : va_D A [(h0, .inr (6, [.int 0, .ref kd, .ref mo, .ref st, .int 0, .ref ro, .ref tp, .int 2, .ref cd, .ref sr, .int 1, .int 0, .int 0, .ref ir, .ref ih, .ref ss, .ref sq, .ref ce, .ref lw, .int 40, .int 40, .int 0, .int 0, .ref wo, .ref he, .int 0, .int 0, .int 5, .ref sk, .ref na, .ref kp, .int 0, .int 0, .int 0, .int 0, .ref gb, .ref go, .ref fa, .ref ga, .int 0, .int 0, .ref vo])), (tp, .inl (G.2.1, 160, .inl (upd (upd (gPf tB 40) 0 v1) 1 v2)))] := hD
                refine lv_iinc (v := 2) (lv' := [(7, .int 2), (0, .ref h0), (1, .int v0), (2, .int v1), (3, .int v2), (4, .int v3), (5, .int v4), (6, .int v5)]) hx hb dX6_feed_136 hl (k := 0) rfl (by decide) (by decide) rfl (fun ls hl => ?_)
                refine lv_goto (tgt := 68) hx hb dX6_feed_139 (by decide) ?_
                refine lv_iload hx hb dX6_feed_68 (lv_at hl 0 rfl) ?_
                refine lv_iload_n hx hb dX6_feed_70 rfl (lv_at hl 2 rfl) ?_
                refine lv_icmp_ge (tgt := 142) hx hb dX6_feed_71 (by decide) (fun c_44 => ?_) (fun c_44 => ?_)
                rotate_left
                · exact absurd (by rw [hk]; decide) c_44
                refine lv_aload_n hx hb dX6_feed_142 rfl (lv_at hl 1 rfl) ?_
                refine va_get (D := G.1) (ci := 6) (v := .int 2) (C := RX6) (T := TX6) (N := 42) hx hb hts hiX6 hown hK hP 0 rfl rfl 7 (by decide) kf80 (fun _ h9 => h9) rfl dX6_feed_143 ?_
                have hpost : (fun (r : Int32) (u : Unit) => match u with | _ => r = (if (1 ≤ v0 ∧ v0 ≤ 5) ∧ (0 ≤ v1 ∧ v1 ≤ 255) ∧ (0 ≤ v2 ∧ v2 ≤ 255) ∧ (0 ≤ v3 ∧ v3 ≤ 255) ∧ (0 ≤ v4 ∧ v4 ≤ 255) ∧ (0 ≤ v5 ∧ v5 ≤ 255) then v0 else -2)) 2 () := pp_X6_feed_0_7 v0 v1 v2 v3 v4 v5 p_4 p_9 p_14 p_19 p_24 p_29 hk
                exact W.iret (v := 2) hx hb hr (fun t ht hW => ⟨⟨2, (), rfl, hpost, trivial⟩, hS.F ht⟩) hS.2.2 dX6_feed_146
              · skip
                refine lv_aload_n hx hb dX6_feed_50 rfl (lv_at hl 0 rfl) ?_
                refine va_get (D := G.1) (ci := 6) (v := .int 0) (C := RX6) (T := TX6) (N := 42) hx hb hts hiX6 hown hK hP 0 rfl rfl 7 (by decide) kf80 (fun _ h9 => h9) rfl dX6_feed_51 ?_
                refine lv_iload_n hx hb dX6_feed_54 rfl (lv_at hl 1 rfl) ?_
                refine lv_iadd hx hb dX6_feed_55 ?_
                refine lv_sipush (v := 160) hx hb dX6_feed_56 (by decide) ?_
                refine lv_icmp_le (tgt := 65) hx hb dX6_feed_59 (by decide) (fun c_45 => ?_) (fun c_45 => ?_)
                rotate_left
                · exact absurd (by rw [hk]; decide) c_45
                refine lv_iconst (v := 0) hx hb dX6_feed_65 (by decide) ?_
                refine lv_istore (lv' := [(7, .int 0), (0, .ref h0), (1, .int v0), (2, .int v1), (3, .int v2), (4, .int v3), (5, .int v4), (6, .int v5)]) hx hb dX6_feed_66 hl (by decide) rfl (fun ls hl => ?_)
                refine lv_iload hx hb dX6_feed_68 (lv_at hl 0 rfl) ?_
                refine lv_iload_n hx hb dX6_feed_70 rfl (lv_at hl 2 rfl) ?_
                refine lv_icmp_ge (tgt := 142) hx hb dX6_feed_71 (by decide) (fun c_46 => ?_) (fun c_46 => ?_)
                · exact absurd c_46 (by rw [hk]; decide)
                refine lv_aload_n hx hb dX6_feed_74 rfl (lv_at hl 1 rfl) ?_
                refine va_get (D := G.1) (ci := 6) (v := .ref tp) (C := RX6) (T := TX6) (N := 42) hx hb hts hiX6 hown hK hP 0 rfl rfl 6 (by decide) kf22 (fun _ h9 => h9) rfl dX6_feed_75 ?_
                refine lv_aload_n hx hb dX6_feed_78 rfl (lv_at hl 1 rfl) ?_
                refine va_get (D := G.1) (ci := 6) (v := .int 0) (C := RX6) (T := TX6) (N := 42) hx hb hts hiX6 hown hK hP 0 rfl rfl 7 (by decide) kf80 (fun _ h9 => h9) rfl dX6_feed_79 ?_
                refine lv_iload hx hb dX6_feed_82 (lv_at hl 0 rfl) ?_
                refine lv_if_ne (tgt := 91) hx hb dX6_feed_84 (by decide) (fun c_47 => ?_) (fun c_47 => ?_)
                · exact absurd (by decide) c_47
                refine lv_iload_n hx hb dX6_feed_87 rfl (lv_at hl 3 rfl) ?_
                refine lv_goto (tgt := 125) hx hb dX6_feed_88 (by decide) ?_
                refine va_iast (D := G.1) hx hb hK hP hD hS 1 0 rfl rfl (i := 0) (x := v1) (gIn (by decide)) dX6_feed_125 (fun H locs hP hD hS => ?_)
                have hP : va_P G.1 vwCl [(h0, .inr (6, [.int 0, .ref kd, .ref mo, .ref st, .int 0, .ref ro, .ref tp, .int 0, .ref cd, .ref sr, .int 1, .int 0, .int 0, .ref ir, .ref ih, .ref ss, .ref sq, .ref ce, .ref lw, .int 40, .int 40, .int 0, .int 0, .ref wo, .ref he, .int 0, .int 0, .int 5, .ref sk, .ref na, .ref kp, .int 0, .int 0, .int 0, .int 0, .ref gb, .ref go, .ref fa, .ref ga, .int 0, .int 0, .ref vo])), (tp, .inl (G.2.1, 160, .inl (upd (gPf tB 40) 0 v1)))] H := hP
                have hD : va_D A [(h0, .inr (6, [.int 0, .ref kd, .ref mo, .ref st, .int 0, .ref ro, .ref tp, .int 0, .ref cd, .ref sr, .int 1, .int 0, .int 0, .ref ir, .ref ih, .ref ss, .ref sq, .ref ce, .ref lw, .int 40, .int 40, .int 0, .int 0, .ref wo, .ref he, .int 0, .int 0, .int 5, .ref sk, .ref na, .ref kp, .int 0, .int 0, .int 0, .int 0, .ref gb, .ref go, .ref fa, .ref ga, .int 0, .int 0, .ref vo])), (tp, .inl (G.2.1, 160, .inl (upd (gPf tB 40) 0 v1)))] := hD
                refine lv_aload_n hx hb dX6_feed_126 rfl (lv_at hl 1 rfl) ?_
                refine lv_dup hx hb dX6_feed_127 rfl ?_
                refine va_get (D := G.1) (ci := 6) (v := .int 0) (C := RX6) (T := TX6) (N := 42) hx hb hts hiX6 hown hK hP 0 rfl rfl 7 (by decide) kf80 (fun _ h9 => h9) rfl dX6_feed_128 ?_
                refine lv_iconst (v := 1) hx hb dX6_feed_131 (by decide) ?_
                refine lv_iadd hx hb dX6_feed_132 ?_
                refine lv_topi (fun v_48 ev_48 => ?_)
                have ev_48 : v_48 = 1 := ev_48.trans (by decide)
                subst ev_48
                refine va_put (D := G.1) (ci := 6) (v := .int 1) (ty := .int) (C := RX6) (T := TX6) (N := 42) hx hb hts hiX6 tyX6 tyX6_ok nmX6 hown hK hP hD hS 0 rfl rfl 7 (by decide) kf80 (fun _ h9 => h9) rfl (by decide +kernel) rfl rfl (Nat.le_of_ble_eq_true rfl) dX6_feed_133 (fun H locs hP hD hS => ?_)
                have hP : va_P G.1 vwCl [(h0, .inr (6, [.int 0, .ref kd, .ref mo, .ref st, .int 0, .ref ro, .ref tp, .int 1, .ref cd, .ref sr, .int 1, .int 0, .int 0, .ref ir, .ref ih, .ref ss, .ref sq, .ref ce, .ref lw, .int 40, .int 40, .int 0, .int 0, .ref wo, .ref he, .int 0, .int 0, .int 5, .ref sk, .ref na, .ref kp, .int 0, .int 0, .int 0, .int 0, .ref gb, .ref go, .ref fa, .ref ga, .int 0, .int 0, .ref vo])), (tp, .inl (G.2.1, 160, .inl (upd (gPf tB 40) 0 v1)))] H := hP
                have hD : va_D A [(h0, .inr (6, [.int 0, .ref kd, .ref mo, .ref st, .int 0, .ref ro, .ref tp, .int 1, .ref cd, .ref sr, .int 1, .int 0, .int 0, .ref ir, .ref ih, .ref ss, .ref sq, .ref ce, .ref lw, .int 40, .int 40, .int 0, .int 0, .ref wo, .ref he, .int 0, .int 0, .int 5, .ref sk, .ref na, .ref kp, .int 0, .int 0, .int 0, .int 0, .ref gb, .ref go, .ref fa, .ref ga, .int 0, .int 0, .ref vo])), (tp, .inl (G.2.1, 160, .inl (upd (gPf tB 40) 0 v1)))] := hD
                refine lv_iinc (v := 1) (lv' := [(7, .int 1), (0, .ref h0), (1, .int v0), (2, .int v1), (3, .int v2), (4, .int v3), (5, .int v4), (6, .int v5)]) hx hb dX6_feed_136 hl (k := 0) rfl (by decide) (by decide) rfl (fun ls hl => ?_)
                refine lv_goto (tgt := 68) hx hb dX6_feed_139 (by decide) ?_
                refine lv_iload hx hb dX6_feed_68 (lv_at hl 0 rfl) ?_
                refine lv_iload_n hx hb dX6_feed_70 rfl (lv_at hl 2 rfl) ?_
                refine lv_icmp_ge (tgt := 142) hx hb dX6_feed_71 (by decide) (fun c_49 => ?_) (fun c_49 => ?_)
                · exact absurd c_49 (by rw [hk]; decide)
                refine lv_aload_n hx hb dX6_feed_74 rfl (lv_at hl 1 rfl) ?_
                refine va_get (D := G.1) (ci := 6) (v := .ref tp) (C := RX6) (T := TX6) (N := 42) hx hb hts hiX6 hown hK hP 0 rfl rfl 6 (by decide) kf22 (fun _ h9 => h9) rfl dX6_feed_75 ?_
                refine lv_aload_n hx hb dX6_feed_78 rfl (lv_at hl 1 rfl) ?_
                refine va_get (D := G.1) (ci := 6) (v := .int 1) (C := RX6) (T := TX6) (N := 42) hx hb hts hiX6 hown hK hP 0 rfl rfl 7 (by decide) kf80 (fun _ h9 => h9) rfl dX6_feed_79 ?_
                refine lv_iload hx hb dX6_feed_82 (lv_at hl 0 rfl) ?_
                refine lv_if_ne (tgt := 91) hx hb dX6_feed_84 (by decide) (fun c_50 => ?_) (fun c_50 => ?_)
                rotate_left
                · exact absurd c_50 (by decide)
                refine lv_iload hx hb dX6_feed_91 (lv_at hl 0 rfl) ?_
                refine lv_iconst (v := 1) hx hb dX6_feed_93 (by decide) ?_
                refine lv_icmp_ne (tgt := 101) hx hb dX6_feed_94 (by decide) (fun c_51 => ?_) (fun c_51 => ?_)
                · exact absurd (by decide) c_51
                refine lv_iload_n hx hb dX6_feed_97 rfl (lv_at hl 4 rfl) ?_
                refine lv_goto (tgt := 125) hx hb dX6_feed_98 (by decide) ?_
                refine va_iast (D := G.1) hx hb hK hP hD hS 1 0 rfl rfl (i := 1) (x := v2) (gIn (by decide)) dX6_feed_125 (fun H locs hP hD hS => ?_)
                have hP : va_P G.1 vwCl [(h0, .inr (6, [.int 0, .ref kd, .ref mo, .ref st, .int 0, .ref ro, .ref tp, .int 1, .ref cd, .ref sr, .int 1, .int 0, .int 0, .ref ir, .ref ih, .ref ss, .ref sq, .ref ce, .ref lw, .int 40, .int 40, .int 0, .int 0, .ref wo, .ref he, .int 0, .int 0, .int 5, .ref sk, .ref na, .ref kp, .int 0, .int 0, .int 0, .int 0, .ref gb, .ref go, .ref fa, .ref ga, .int 0, .int 0, .ref vo])), (tp, .inl (G.2.1, 160, .inl (upd (upd (gPf tB 40) 0 v1) 1 v2)))] H := hP
                have hD : va_D A [(h0, .inr (6, [.int 0, .ref kd, .ref mo, .ref st, .int 0, .ref ro, .ref tp, .int 1, .ref cd, .ref sr, .int 1, .int 0, .int 0, .ref ir, .ref ih, .ref ss, .ref sq, .ref ce, .ref lw, .int 40, .int 40, .int 0, .int 0, .ref wo, .ref he, .int 0, .int 0, .int 5, .ref sk, .ref na, .ref kp, .int 0, .int 0, .int 0, .int 0, .ref gb, .ref go, .ref fa, .ref ga, .int 0, .int 0, .ref vo])), (tp, .inl (G.2.1, 160, .inl (upd (upd (gPf tB 40) 0 v1) 1 v2)))] := hD
                refine lv_aload_n hx hb dX6_feed_126 rfl (lv_at hl 1 rfl) ?_
                refine lv_dup hx hb dX6_feed_127 rfl ?_
                refine va_get (D := G.1) (ci := 6) (v := .int 1) (C := RX6) (T := TX6) (N := 42) hx hb hts hiX6 hown hK hP 0 rfl rfl 7 (by decide) kf80 (fun _ h9 => h9) rfl dX6_feed_128 ?_
                refine lv_iconst (v := 1) hx hb dX6_feed_131 (by decide) ?_
                refine lv_iadd hx hb dX6_feed_132 ?_
                refine lv_topi (fun v_52 ev_52 => ?_)
                have ev_52 : v_52 = 2 := ev_52.trans (by decide)
                subst ev_52
                refine va_put (D := G.1) (ci := 6) (v := .int 2) (ty := .int) (C := RX6) (T := TX6) (N := 42) hx hb hts hiX6 tyX6 tyX6_ok nmX6 hown hK hP hD hS 0 rfl rfl 7 (by decide) kf80 (fun _ h9 => h9) rfl (by decide +kernel) rfl rfl (Nat.le_of_ble_eq_true rfl) dX6_feed_133 (fun H locs hP hD hS => ?_)
                have hP : va_P G.1 vwCl [(h0, .inr (6, [.int 0, .ref kd, .ref mo, .ref st, .int 0, .ref ro, .ref tp, .int 2, .ref cd, .ref sr, .int 1, .int 0, .int 0, .ref ir, .ref ih, .ref ss, .ref sq, .ref ce, .ref lw, .int 40, .int 40, .int 0, .int 0, .ref wo, .ref he, .int 0, .int 0, .int 5, .ref sk, .ref na, .ref kp, .int 0, .int 0, .int 0, .int 0, .ref gb, .ref go, .ref fa, .ref ga, .int 0, .int 0, .ref vo])), (tp, .inl (G.2.1, 160, .inl (upd (upd (gPf tB 40) 0 v1) 1 v2)))] H := hP
                have hD : va_D A [(h0, .inr (6, [.int 0, .ref kd, .ref mo, .ref st, .int 0, .ref ro, .ref tp, .int 2, .ref cd, .ref sr, .int 1, .int 0, .int 0, .ref ir, .ref ih, .ref ss, .ref sq, .ref ce, .ref lw, .int 40, .int 40, .int 0, .int 0, .ref wo, .ref he, .int 0, .int 0, .int 5, .ref sk, .ref na, .ref kp, .int 0, .int 0, .int 0, .int 0, .ref gb, .ref go, .ref fa, .ref ga, .int 0, .int 0, .ref vo])), (tp, .inl (G.2.1, 160, .inl (upd (upd (gPf tB 40) 0 v1) 1 v2)))] := hD
                refine lv_iinc (v := 2) (lv' := [(7, .int 2), (0, .ref h0), (1, .int v0), (2, .int v1), (3, .int v2), (4, .int v3), (5, .int v4), (6, .int v5)]) hx hb dX6_feed_136 hl (k := 0) rfl (by decide) (by decide) rfl (fun ls hl => ?_)
                refine lv_goto (tgt := 68) hx hb dX6_feed_139 (by decide) ?_
                refine lv_iload hx hb dX6_feed_68 (lv_at hl 0 rfl) ?_
                refine lv_iload_n hx hb dX6_feed_70 rfl (lv_at hl 2 rfl) ?_
                refine lv_icmp_ge (tgt := 142) hx hb dX6_feed_71 (by decide) (fun c_53 => ?_) (fun c_53 => ?_)
                · exact absurd c_53 (by rw [hk]; decide)
                refine lv_aload_n hx hb dX6_feed_74 rfl (lv_at hl 1 rfl) ?_
                refine va_get (D := G.1) (ci := 6) (v := .ref tp) (C := RX6) (T := TX6) (N := 42) hx hb hts hiX6 hown hK hP 0 rfl rfl 6 (by decide) kf22 (fun _ h9 => h9) rfl dX6_feed_75 ?_
                refine lv_aload_n hx hb dX6_feed_78 rfl (lv_at hl 1 rfl) ?_
                refine va_get (D := G.1) (ci := 6) (v := .int 2) (C := RX6) (T := TX6) (N := 42) hx hb hts hiX6 hown hK hP 0 rfl rfl 7 (by decide) kf80 (fun _ h9 => h9) rfl dX6_feed_79 ?_
                refine lv_iload hx hb dX6_feed_82 (lv_at hl 0 rfl) ?_
                refine lv_if_ne (tgt := 91) hx hb dX6_feed_84 (by decide) (fun c_54 => ?_) (fun c_54 => ?_)
                rotate_left
                · exact absurd c_54 (by decide)
                refine lv_iload hx hb dX6_feed_91 (lv_at hl 0 rfl) ?_
                refine lv_iconst (v := 1) hx hb dX6_feed_93 (by decide) ?_
                refine lv_icmp_ne (tgt := 101) hx hb dX6_feed_94 (by decide) (fun c_55 => ?_) (fun c_55 => ?_)
                rotate_left
                · exact absurd c_55 (by decide)
                refine lv_iload hx hb dX6_feed_101 (lv_at hl 0 rfl) ?_
                refine lv_iconst (v := 2) hx hb dX6_feed_103 (by decide) ?_
                refine lv_icmp_ne (tgt := 112) hx hb dX6_feed_104 (by decide) (fun c_56 => ?_) (fun c_56 => ?_)
                · exact absurd (by decide) c_56
                refine lv_iload hx hb dX6_feed_107 (lv_at hl 5 rfl) ?_
                refine lv_goto (tgt := 125) hx hb dX6_feed_109 (by decide) ?_
                refine va_iast (D := G.1) hx hb hK hP hD hS 1 0 rfl rfl (i := 2) (x := v3) (gIn (by decide)) dX6_feed_125 (fun H locs hP hD hS => ?_)
                have hP : va_P G.1 vwCl [(h0, .inr (6, [.int 0, .ref kd, .ref mo, .ref st, .int 0, .ref ro, .ref tp, .int 2, .ref cd, .ref sr, .int 1, .int 0, .int 0, .ref ir, .ref ih, .ref ss, .ref sq, .ref ce, .ref lw, .int 40, .int 40, .int 0, .int 0, .ref wo, .ref he, .int 0, .int 0, .int 5, .ref sk, .ref na, .ref kp, .int 0, .int 0, .int 0, .int 0, .ref gb, .ref go, .ref fa, .ref ga, .int 0, .int 0, .ref vo])), (tp, .inl (G.2.1, 160, .inl (upd (upd (upd (gPf tB 40) 0 v1) 1 v2) 2 v3)))] H := hP
                have hD : va_D A [(h0, .inr (6, [.int 0, .ref kd, .ref mo, .ref st, .int 0, .ref ro, .ref tp, .int 2, .ref cd, .ref sr, .int 1, .int 0, .int 0, .ref ir, .ref ih, .ref ss, .ref sq, .ref ce, .ref lw, .int 40, .int 40, .int 0, .int 0, .ref wo, .ref he, .int 0, .int 0, .int 5, .ref sk, .ref na, .ref kp, .int 0, .int 0, .int 0, .int 0, .ref gb, .ref go, .ref fa, .ref ga, .int 0, .int 0, .ref vo])), (tp, .inl (G.2.1, 160, .inl (upd (upd (upd (gPf tB 40) 0 v1) 1 v2) 2 v3)))] := hD
                refine lv_aload_n hx hb dX6_feed_126 rfl (lv_at hl 1 rfl) ?_
                refine lv_dup hx hb dX6_feed_127 rfl ?_
                refine va_get (D := G.1) (ci := 6) (v := .int 2) (C := RX6) (T := TX6) (N := 42) hx hb hts hiX6 hown hK hP 0 rfl rfl 7 (by decide) kf80 (fun _ h9 => h9) rfl dX6_feed_128 ?_
                refine lv_iconst (v := 1) hx hb dX6_feed_131 (by decide) ?_
                refine lv_iadd hx hb dX6_feed_132 ?_
                refine lv_topi (fun v_57 ev_57 => ?_)
                have ev_57 : v_57 = 3 := ev_57.trans (by decide)
                subst ev_57
                refine va_put (D := G.1) (ci := 6) (v := .int 3) (ty := .int) (C := RX6) (T := TX6) (N := 42) hx hb hts hiX6 tyX6 tyX6_ok nmX6 hown hK hP hD hS 0 rfl rfl 7 (by decide) kf80 (fun _ h9 => h9) rfl (by decide +kernel) rfl rfl (Nat.le_of_ble_eq_true rfl) dX6_feed_133 (fun H locs hP hD hS => ?_)
                have hP : va_P G.1 vwCl [(h0, .inr (6, [.int 0, .ref kd, .ref mo, .ref st, .int 0, .ref ro, .ref tp, .int 3, .ref cd, .ref sr, .int 1, .int 0, .int 0, .ref ir, .ref ih, .ref ss, .ref sq, .ref ce, .ref lw, .int 40, .int 40, .int 0, .int 0, .ref wo, .ref he, .int 0, .int 0, .int 5, .ref sk, .ref na, .ref kp, .int 0, .int 0, .int 0, .int 0, .ref gb, .ref go, .ref fa, .ref ga, .int 0, .int 0, .ref vo])), (tp, .inl (G.2.1, 160, .inl (upd (upd (upd (gPf tB 40) 0 v1) 1 v2) 2 v3)))] H := hP
                have hD : va_D A [(h0, .inr (6, [.int 0, .ref kd, .ref mo, .ref st, .int 0, .ref ro, .ref tp, .int 3, .ref cd, .ref sr, .int 1, .int 0, .int 0, .ref ir, .ref ih, .ref ss, .ref sq, .ref ce, .ref lw, .int 40, .int 40, .int 0, .int 0, .ref wo, .ref he, .int 0, .int 0, .int 5, .ref sk, .ref na, .ref kp, .int 0, .int 0, .int 0, .int 0, .ref gb, .ref go, .ref fa, .ref ga, .int 0, .int 0, .ref vo])), (tp, .inl (G.2.1, 160, .inl (upd (upd (upd (gPf tB 40) 0 v1) 1 v2) 2 v3)))] := hD
                refine lv_iinc (v := 3) (lv' := [(7, .int 3), (0, .ref h0), (1, .int v0), (2, .int v1), (3, .int v2), (4, .int v3), (5, .int v4), (6, .int v5)]) hx hb dX6_feed_136 hl (k := 0) rfl (by decide) (by decide) rfl (fun ls hl => ?_)
                refine lv_goto (tgt := 68) hx hb dX6_feed_139 (by decide) ?_
                refine lv_iload hx hb dX6_feed_68 (lv_at hl 0 rfl) ?_
                refine lv_iload_n hx hb dX6_feed_70 rfl (lv_at hl 2 rfl) ?_
                refine lv_icmp_ge (tgt := 142) hx hb dX6_feed_71 (by decide) (fun c_58 => ?_) (fun c_58 => ?_)
                rotate_left
                · exact absurd (by rw [hk]; decide) c_58
                refine lv_aload_n hx hb dX6_feed_142 rfl (lv_at hl 1 rfl) ?_
                refine va_get (D := G.1) (ci := 6) (v := .int 3) (C := RX6) (T := TX6) (N := 42) hx hb hts hiX6 hown hK hP 0 rfl rfl 7 (by decide) kf80 (fun _ h9 => h9) rfl dX6_feed_143 ?_
                have hpost : (fun (r : Int32) (u : Unit) => match u with | _ => r = (if (1 ≤ v0 ∧ v0 ≤ 5) ∧ (0 ≤ v1 ∧ v1 ≤ 255) ∧ (0 ≤ v2 ∧ v2 ≤ 255) ∧ (0 ≤ v3 ∧ v3 ≤ 255) ∧ (0 ≤ v4 ∧ v4 ≤ 255) ∧ (0 ≤ v5 ∧ v5 ≤ 255) then v0 else -2)) 3 () := pp_X6_feed_0_8 v0 v1 v2 v3 v4 v5 p_4 p_9 p_14 p_19 p_24 p_29 hk
                exact W.iret (v := 3) hx hb hr (fun t ht hW => ⟨⟨3, (), rfl, hpost, trivial⟩, hS.F ht⟩) hS.2.2 dX6_feed_146
              · skip
                refine lv_aload_n hx hb dX6_feed_50 rfl (lv_at hl 0 rfl) ?_
                refine va_get (D := G.1) (ci := 6) (v := .int 0) (C := RX6) (T := TX6) (N := 42) hx hb hts hiX6 hown hK hP 0 rfl rfl 7 (by decide) kf80 (fun _ h9 => h9) rfl dX6_feed_51 ?_
                refine lv_iload_n hx hb dX6_feed_54 rfl (lv_at hl 1 rfl) ?_
                refine lv_iadd hx hb dX6_feed_55 ?_
                refine lv_sipush (v := 160) hx hb dX6_feed_56 (by decide) ?_
                refine lv_icmp_le (tgt := 65) hx hb dX6_feed_59 (by decide) (fun c_59 => ?_) (fun c_59 => ?_)
                rotate_left
                · exact absurd (by rw [hk]; decide) c_59
                refine lv_iconst (v := 0) hx hb dX6_feed_65 (by decide) ?_
                refine lv_istore (lv' := [(7, .int 0), (0, .ref h0), (1, .int v0), (2, .int v1), (3, .int v2), (4, .int v3), (5, .int v4), (6, .int v5)]) hx hb dX6_feed_66 hl (by decide) rfl (fun ls hl => ?_)
                refine lv_iload hx hb dX6_feed_68 (lv_at hl 0 rfl) ?_
                refine lv_iload_n hx hb dX6_feed_70 rfl (lv_at hl 2 rfl) ?_
                refine lv_icmp_ge (tgt := 142) hx hb dX6_feed_71 (by decide) (fun c_60 => ?_) (fun c_60 => ?_)
                · exact absurd c_60 (by rw [hk]; decide)
                refine lv_aload_n hx hb dX6_feed_74 rfl (lv_at hl 1 rfl) ?_
                refine va_get (D := G.1) (ci := 6) (v := .ref tp) (C := RX6) (T := TX6) (N := 42) hx hb hts hiX6 hown hK hP 0 rfl rfl 6 (by decide) kf22 (fun _ h9 => h9) rfl dX6_feed_75 ?_
                refine lv_aload_n hx hb dX6_feed_78 rfl (lv_at hl 1 rfl) ?_
                refine va_get (D := G.1) (ci := 6) (v := .int 0) (C := RX6) (T := TX6) (N := 42) hx hb hts hiX6 hown hK hP 0 rfl rfl 7 (by decide) kf80 (fun _ h9 => h9) rfl dX6_feed_79 ?_
                refine lv_iload hx hb dX6_feed_82 (lv_at hl 0 rfl) ?_
                refine lv_if_ne (tgt := 91) hx hb dX6_feed_84 (by decide) (fun c_61 => ?_) (fun c_61 => ?_)
                · exact absurd (by decide) c_61
                refine lv_iload_n hx hb dX6_feed_87 rfl (lv_at hl 3 rfl) ?_
                refine lv_goto (tgt := 125) hx hb dX6_feed_88 (by decide) ?_
                refine va_iast (D := G.1) hx hb hK hP hD hS 1 0 rfl rfl (i := 0) (x := v1) (gIn (by decide)) dX6_feed_125 (fun H locs hP hD hS => ?_)
                have hP : va_P G.1 vwCl [(h0, .inr (6, [.int 0, .ref kd, .ref mo, .ref st, .int 0, .ref ro, .ref tp, .int 0, .ref cd, .ref sr, .int 1, .int 0, .int 0, .ref ir, .ref ih, .ref ss, .ref sq, .ref ce, .ref lw, .int 40, .int 40, .int 0, .int 0, .ref wo, .ref he, .int 0, .int 0, .int 5, .ref sk, .ref na, .ref kp, .int 0, .int 0, .int 0, .int 0, .ref gb, .ref go, .ref fa, .ref ga, .int 0, .int 0, .ref vo])), (tp, .inl (G.2.1, 160, .inl (upd (gPf tB 40) 0 v1)))] H := hP
                have hD : va_D A [(h0, .inr (6, [.int 0, .ref kd, .ref mo, .ref st, .int 0, .ref ro, .ref tp, .int 0, .ref cd, .ref sr, .int 1, .int 0, .int 0, .ref ir, .ref ih, .ref ss, .ref sq, .ref ce, .ref lw, .int 40, .int 40, .int 0, .int 0, .ref wo, .ref he, .int 0, .int 0, .int 5, .ref sk, .ref na, .ref kp, .int 0, .int 0, .int 0, .int 0, .ref gb, .ref go, .ref fa, .ref ga, .int 0, .int 0, .ref vo])), (tp, .inl (G.2.1, 160, .inl (upd (gPf tB 40) 0 v1)))] := hD
                refine lv_aload_n hx hb dX6_feed_126 rfl (lv_at hl 1 rfl) ?_
                refine lv_dup hx hb dX6_feed_127 rfl ?_
                refine va_get (D := G.1) (ci := 6) (v := .int 0) (C := RX6) (T := TX6) (N := 42) hx hb hts hiX6 hown hK hP 0 rfl rfl 7 (by decide) kf80 (fun _ h9 => h9) rfl dX6_feed_128 ?_
                refine lv_iconst (v := 1) hx hb dX6_feed_131 (by decide) ?_
                refine lv_iadd hx hb dX6_feed_132 ?_
                refine lv_topi (fun v_62 ev_62 => ?_)
                have ev_62 : v_62 = 1 := ev_62.trans (by decide)
                subst ev_62
                refine va_put (D := G.1) (ci := 6) (v := .int 1) (ty := .int) (C := RX6) (T := TX6) (N := 42) hx hb hts hiX6 tyX6 tyX6_ok nmX6 hown hK hP hD hS 0 rfl rfl 7 (by decide) kf80 (fun _ h9 => h9) rfl (by decide +kernel) rfl rfl (Nat.le_of_ble_eq_true rfl) dX6_feed_133 (fun H locs hP hD hS => ?_)
                have hP : va_P G.1 vwCl [(h0, .inr (6, [.int 0, .ref kd, .ref mo, .ref st, .int 0, .ref ro, .ref tp, .int 1, .ref cd, .ref sr, .int 1, .int 0, .int 0, .ref ir, .ref ih, .ref ss, .ref sq, .ref ce, .ref lw, .int 40, .int 40, .int 0, .int 0, .ref wo, .ref he, .int 0, .int 0, .int 5, .ref sk, .ref na, .ref kp, .int 0, .int 0, .int 0, .int 0, .ref gb, .ref go, .ref fa, .ref ga, .int 0, .int 0, .ref vo])), (tp, .inl (G.2.1, 160, .inl (upd (gPf tB 40) 0 v1)))] H := hP
                have hD : va_D A [(h0, .inr (6, [.int 0, .ref kd, .ref mo, .ref st, .int 0, .ref ro, .ref tp, .int 1, .ref cd, .ref sr, .int 1, .int 0, .int 0, .ref ir, .ref ih, .ref ss, .ref sq, .ref ce, .ref lw, .int 40, .int 40, .int 0, .int 0, .ref wo, .ref he, .int 0, .int 0, .int 5, .ref sk, .ref na, .ref kp, .int 0, .int 0, .int 0, .int 0, .ref gb, .ref go, .ref fa, .ref ga, .int 0, .int 0, .ref vo])), (tp, .inl (G.2.1, 160, .inl (upd (gPf tB 40) 0 v1)))] := hD
                refine lv_iinc (v := 1) (lv' := [(7, .int 1), (0, .ref h0), (1, .int v0), (2, .int v1), (3, .int v2), (4, .int v3), (5, .int v4), (6, .int v5)]) hx hb dX6_feed_136 hl (k := 0) rfl (by decide) (by decide) rfl (fun ls hl => ?_)
                refine lv_goto (tgt := 68) hx hb dX6_feed_139 (by decide) ?_
                refine lv_iload hx hb dX6_feed_68 (lv_at hl 0 rfl) ?_
                refine lv_iload_n hx hb dX6_feed_70 rfl (lv_at hl 2 rfl) ?_
                refine lv_icmp_ge (tgt := 142) hx hb dX6_feed_71 (by decide) (fun c_63 => ?_) (fun c_63 => ?_)
                · exact absurd c_63 (by rw [hk]; decide)
                refine lv_aload_n hx hb dX6_feed_74 rfl (lv_at hl 1 rfl) ?_
                refine va_get (D := G.1) (ci := 6) (v := .ref tp) (C := RX6) (T := TX6) (N := 42) hx hb hts hiX6 hown hK hP 0 rfl rfl 6 (by decide) kf22 (fun _ h9 => h9) rfl dX6_feed_75 ?_
                refine lv_aload_n hx hb dX6_feed_78 rfl (lv_at hl 1 rfl) ?_
                refine va_get (D := G.1) (ci := 6) (v := .int 1) (C := RX6) (T := TX6) (N := 42) hx hb hts hiX6 hown hK hP 0 rfl rfl 7 (by decide) kf80 (fun _ h9 => h9) rfl dX6_feed_79 ?_
                refine lv_iload hx hb dX6_feed_82 (lv_at hl 0 rfl) ?_
                refine lv_if_ne (tgt := 91) hx hb dX6_feed_84 (by decide) (fun c_64 => ?_) (fun c_64 => ?_)
                rotate_left
                · exact absurd c_64 (by decide)
                refine lv_iload hx hb dX6_feed_91 (lv_at hl 0 rfl) ?_
                refine lv_iconst (v := 1) hx hb dX6_feed_93 (by decide) ?_
                refine lv_icmp_ne (tgt := 101) hx hb dX6_feed_94 (by decide) (fun c_65 => ?_) (fun c_65 => ?_)
                · exact absurd (by decide) c_65
                refine lv_iload_n hx hb dX6_feed_97 rfl (lv_at hl 4 rfl) ?_
                refine lv_goto (tgt := 125) hx hb dX6_feed_98 (by decide) ?_
                refine va_iast (D := G.1) hx hb hK hP hD hS 1 0 rfl rfl (i := 1) (x := v2) (gIn (by decide)) dX6_feed_125 (fun H locs hP hD hS => ?_)
                have hP : va_P G.1 vwCl [(h0, .inr (6, [.int 0, .ref kd, .ref mo, .ref st, .int 0, .ref ro, .ref tp, .int 1, .ref cd, .ref sr, .int 1, .int 0, .int 0, .ref ir, .ref ih, .ref ss, .ref sq, .ref ce, .ref lw, .int 40, .int 40, .int 0, .int 0, .ref wo, .ref he, .int 0, .int 0, .int 5, .ref sk, .ref na, .ref kp, .int 0, .int 0, .int 0, .int 0, .ref gb, .ref go, .ref fa, .ref ga, .int 0, .int 0, .ref vo])), (tp, .inl (G.2.1, 160, .inl (upd (upd (gPf tB 40) 0 v1) 1 v2)))] H := hP
                have hD : va_D A [(h0, .inr (6, [.int 0, .ref kd, .ref mo, .ref st, .int 0, .ref ro, .ref tp, .int 1, .ref cd, .ref sr, .int 1, .int 0, .int 0, .ref ir, .ref ih, .ref ss, .ref sq, .ref ce, .ref lw, .int 40, .int 40, .int 0, .int 0, .ref wo, .ref he, .int 0, .int 0, .int 5, .ref sk, .ref na, .ref kp, .int 0, .int 0, .int 0, .int 0, .ref gb, .ref go, .ref fa, .ref ga, .int 0, .int 0, .ref vo])), (tp, .inl (G.2.1, 160, .inl (upd (upd (gPf tB 40) 0 v1) 1 v2)))] := hD
                refine lv_aload_n hx hb dX6_feed_126 rfl (lv_at hl 1 rfl) ?_
                refine lv_dup hx hb dX6_feed_127 rfl ?_
                refine va_get (D := G.1) (ci := 6) (v := .int 1) (C := RX6) (T := TX6) (N := 42) hx hb hts hiX6 hown hK hP 0 rfl rfl 7 (by decide) kf80 (fun _ h9 => h9) rfl dX6_feed_128 ?_
                refine lv_iconst (v := 1) hx hb dX6_feed_131 (by decide) ?_
                refine lv_iadd hx hb dX6_feed_132 ?_
                refine lv_topi (fun v_66 ev_66 => ?_)
                have ev_66 : v_66 = 2 := ev_66.trans (by decide)
                subst ev_66
                refine va_put (D := G.1) (ci := 6) (v := .int 2) (ty := .int) (C := RX6) (T := TX6) (N := 42) hx hb hts hiX6 tyX6 tyX6_ok nmX6 hown hK hP hD hS 0 rfl rfl 7 (by decide) kf80 (fun _ h9 => h9) rfl (by decide +kernel) rfl rfl (Nat.le_of_ble_eq_true rfl) dX6_feed_133 (fun H locs hP hD hS => ?_)
                have hP : va_P G.1 vwCl [(h0, .inr (6, [.int 0, .ref kd, .ref mo, .ref st, .int 0, .ref ro, .ref tp, .int 2, .ref cd, .ref sr, .int 1, .int 0, .int 0, .ref ir, .ref ih, .ref ss, .ref sq, .ref ce, .ref lw, .int 40, .int 40, .int 0, .int 0, .ref wo, .ref he, .int 0, .int 0, .int 5, .ref sk, .ref na, .ref kp, .int 0, .int 0, .int 0, .int 0, .ref gb, .ref go, .ref fa, .ref ga, .int 0, .int 0, .ref vo])), (tp, .inl (G.2.1, 160, .inl (upd (upd (gPf tB 40) 0 v1) 1 v2)))] H := hP
                have hD : va_D A [(h0, .inr (6, [.int 0, .ref kd, .ref mo, .ref st, .int 0, .ref ro, .ref tp, .int 2, .ref cd, .ref sr, .int 1, .int 0, .int 0, .ref ir, .ref ih, .ref ss, .ref sq, .ref ce, .ref lw, .int 40, .int 40, .int 0, .int 0, .ref wo, .ref he, .int 0, .int 0, .int 5, .ref sk, .ref na, .ref kp, .int 0, .int 0, .int 0, .int 0, .ref gb, .ref go, .ref fa, .ref ga, .int 0, .int 0, .ref vo])), (tp, .inl (G.2.1, 160, .inl (upd (upd (gPf tB 40) 0 v1) 1 v2)))] := hD
                refine lv_iinc (v := 2) (lv' := [(7, .int 2), (0, .ref h0), (1, .int v0), (2, .int v1), (3, .int v2), (4, .int v3), (5, .int v4), (6, .int v5)]) hx hb dX6_feed_136 hl (k := 0) rfl (by decide) (by decide) rfl (fun ls hl => ?_)
                refine lv_goto (tgt := 68) hx hb dX6_feed_139 (by decide) ?_
                refine lv_iload hx hb dX6_feed_68 (lv_at hl 0 rfl) ?_
                refine lv_iload_n hx hb dX6_feed_70 rfl (lv_at hl 2 rfl) ?_
                refine lv_icmp_ge (tgt := 142) hx hb dX6_feed_71 (by decide) (fun c_67 => ?_) (fun c_67 => ?_)
                · exact absurd c_67 (by rw [hk]; decide)
                refine lv_aload_n hx hb dX6_feed_74 rfl (lv_at hl 1 rfl) ?_
                refine va_get (D := G.1) (ci := 6) (v := .ref tp) (C := RX6) (T := TX6) (N := 42) hx hb hts hiX6 hown hK hP 0 rfl rfl 6 (by decide) kf22 (fun _ h9 => h9) rfl dX6_feed_75 ?_
                refine lv_aload_n hx hb dX6_feed_78 rfl (lv_at hl 1 rfl) ?_
                refine va_get (D := G.1) (ci := 6) (v := .int 2) (C := RX6) (T := TX6) (N := 42) hx hb hts hiX6 hown hK hP 0 rfl rfl 7 (by decide) kf80 (fun _ h9 => h9) rfl dX6_feed_79 ?_
                refine lv_iload hx hb dX6_feed_82 (lv_at hl 0 rfl) ?_
                refine lv_if_ne (tgt := 91) hx hb dX6_feed_84 (by decide) (fun c_68 => ?_) (fun c_68 => ?_)
                rotate_left
                · exact absurd c_68 (by decide)
                refine lv_iload hx hb dX6_feed_91 (lv_at hl 0 rfl) ?_
                refine lv_iconst (v := 1) hx hb dX6_feed_93 (by decide) ?_
                refine lv_icmp_ne (tgt := 101) hx hb dX6_feed_94 (by decide) (fun c_69 => ?_) (fun c_69 => ?_)
                rotate_left
                · exact absurd c_69 (by decide)
                refine lv_iload hx hb dX6_feed_101 (lv_at hl 0 rfl) ?_
                refine lv_iconst (v := 2) hx hb dX6_feed_103 (by decide) ?_
                refine lv_icmp_ne (tgt := 112) hx hb dX6_feed_104 (by decide) (fun c_70 => ?_) (fun c_70 => ?_)
                · exact absurd (by decide) c_70
                refine lv_iload hx hb dX6_feed_107 (lv_at hl 5 rfl) ?_
                refine lv_goto (tgt := 125) hx hb dX6_feed_109 (by decide) ?_
                refine va_iast (D := G.1) hx hb hK hP hD hS 1 0 rfl rfl (i := 2) (x := v3) (gIn (by decide)) dX6_feed_125 (fun H locs hP hD hS => ?_)
                have hP : va_P G.1 vwCl [(h0, .inr (6, [.int 0, .ref kd, .ref mo, .ref st, .int 0, .ref ro, .ref tp, .int 2, .ref cd, .ref sr, .int 1, .int 0, .int 0, .ref ir, .ref ih, .ref ss, .ref sq, .ref ce, .ref lw, .int 40, .int 40, .int 0, .int 0, .ref wo, .ref he, .int 0, .int 0, .int 5, .ref sk, .ref na, .ref kp, .int 0, .int 0, .int 0, .int 0, .ref gb, .ref go, .ref fa, .ref ga, .int 0, .int 0, .ref vo])), (tp, .inl (G.2.1, 160, .inl (upd (upd (upd (gPf tB 40) 0 v1) 1 v2) 2 v3)))] H := hP
                have hD : va_D A [(h0, .inr (6, [.int 0, .ref kd, .ref mo, .ref st, .int 0, .ref ro, .ref tp, .int 2, .ref cd, .ref sr, .int 1, .int 0, .int 0, .ref ir, .ref ih, .ref ss, .ref sq, .ref ce, .ref lw, .int 40, .int 40, .int 0, .int 0, .ref wo, .ref he, .int 0, .int 0, .int 5, .ref sk, .ref na, .ref kp, .int 0, .int 0, .int 0, .int 0, .ref gb, .ref go, .ref fa, .ref ga, .int 0, .int 0, .ref vo])), (tp, .inl (G.2.1, 160, .inl (upd (upd (upd (gPf tB 40) 0 v1) 1 v2) 2 v3)))] := hD
                refine lv_aload_n hx hb dX6_feed_126 rfl (lv_at hl 1 rfl) ?_
                refine lv_dup hx hb dX6_feed_127 rfl ?_
                refine va_get (D := G.1) (ci := 6) (v := .int 2) (C := RX6) (T := TX6) (N := 42) hx hb hts hiX6 hown hK hP 0 rfl rfl 7 (by decide) kf80 (fun _ h9 => h9) rfl dX6_feed_128 ?_
                refine lv_iconst (v := 1) hx hb dX6_feed_131 (by decide) ?_
                refine lv_iadd hx hb dX6_feed_132 ?_
                refine lv_topi (fun v_71 ev_71 => ?_)
                have ev_71 : v_71 = 3 := ev_71.trans (by decide)
                subst ev_71
                refine va_put (D := G.1) (ci := 6) (v := .int 3) (ty := .int) (C := RX6) (T := TX6) (N := 42) hx hb hts hiX6 tyX6 tyX6_ok nmX6 hown hK hP hD hS 0 rfl rfl 7 (by decide) kf80 (fun _ h9 => h9) rfl (by decide +kernel) rfl rfl (Nat.le_of_ble_eq_true rfl) dX6_feed_133 (fun H locs hP hD hS => ?_)
                have hP : va_P G.1 vwCl [(h0, .inr (6, [.int 0, .ref kd, .ref mo, .ref st, .int 0, .ref ro, .ref tp, .int 3, .ref cd, .ref sr, .int 1, .int 0, .int 0, .ref ir, .ref ih, .ref ss, .ref sq, .ref ce, .ref lw, .int 40, .int 40, .int 0, .int 0, .ref wo, .ref he, .int 0, .int 0, .int 5, .ref sk, .ref na, .ref kp, .int 0, .int 0, .int 0, .int 0, .ref gb, .ref go, .ref fa, .ref ga, .int 0, .int 0, .ref vo])), (tp, .inl (G.2.1, 160, .inl (upd (upd (upd (gPf tB 40) 0 v1) 1 v2) 2 v3)))] H := hP
                have hD : va_D A [(h0, .inr (6, [.int 0, .ref kd, .ref mo, .ref st, .int 0, .ref ro, .ref tp, .int 3, .ref cd, .ref sr, .int 1, .int 0, .int 0, .ref ir, .ref ih, .ref ss, .ref sq, .ref ce, .ref lw, .int 40, .int 40, .int 0, .int 0, .ref wo, .ref he, .int 0, .int 0, .int 5, .ref sk, .ref na, .ref kp, .int 0, .int 0, .int 0, .int 0, .ref gb, .ref go, .ref fa, .ref ga, .int 0, .int 0, .ref vo])), (tp, .inl (G.2.1, 160, .inl (upd (upd (upd (gPf tB 40) 0 v1) 1 v2) 2 v3)))] := hD
                refine lv_iinc (v := 3) (lv' := [(7, .int 3), (0, .ref h0), (1, .int v0), (2, .int v1), (3, .int v2), (4, .int v3), (5, .int v4), (6, .int v5)]) hx hb dX6_feed_136 hl (k := 0) rfl (by decide) (by decide) rfl (fun ls hl => ?_)
                refine lv_goto (tgt := 68) hx hb dX6_feed_139 (by decide) ?_
                refine lv_iload hx hb dX6_feed_68 (lv_at hl 0 rfl) ?_
                refine lv_iload_n hx hb dX6_feed_70 rfl (lv_at hl 2 rfl) ?_
                refine lv_icmp_ge (tgt := 142) hx hb dX6_feed_71 (by decide) (fun c_72 => ?_) (fun c_72 => ?_)
                · exact absurd c_72 (by rw [hk]; decide)
                refine lv_aload_n hx hb dX6_feed_74 rfl (lv_at hl 1 rfl) ?_
                refine va_get (D := G.1) (ci := 6) (v := .ref tp) (C := RX6) (T := TX6) (N := 42) hx hb hts hiX6 hown hK hP 0 rfl rfl 6 (by decide) kf22 (fun _ h9 => h9) rfl dX6_feed_75 ?_
                refine lv_aload_n hx hb dX6_feed_78 rfl (lv_at hl 1 rfl) ?_
                refine va_get (D := G.1) (ci := 6) (v := .int 3) (C := RX6) (T := TX6) (N := 42) hx hb hts hiX6 hown hK hP 0 rfl rfl 7 (by decide) kf80 (fun _ h9 => h9) rfl dX6_feed_79 ?_
                refine lv_iload hx hb dX6_feed_82 (lv_at hl 0 rfl) ?_
                refine lv_if_ne (tgt := 91) hx hb dX6_feed_84 (by decide) (fun c_73 => ?_) (fun c_73 => ?_)
                rotate_left
                · exact absurd c_73 (by decide)
                refine lv_iload hx hb dX6_feed_91 (lv_at hl 0 rfl) ?_
                refine lv_iconst (v := 1) hx hb dX6_feed_93 (by decide) ?_
                refine lv_icmp_ne (tgt := 101) hx hb dX6_feed_94 (by decide) (fun c_74 => ?_) (fun c_74 => ?_)
                rotate_left
                · exact absurd c_74 (by decide)
                refine lv_iload hx hb dX6_feed_101 (lv_at hl 0 rfl) ?_
                refine lv_iconst (v := 2) hx hb dX6_feed_103 (by decide) ?_
                refine lv_icmp_ne (tgt := 112) hx hb dX6_feed_104 (by decide) (fun c_75 => ?_) (fun c_75 => ?_)
                rotate_left
                · exact absurd c_75 (by decide)
                refine lv_iload hx hb dX6_feed_112 (lv_at hl 0 rfl) ?_
                refine lv_iconst (v := 3) hx hb dX6_feed_114 (by decide) ?_
                refine lv_icmp_ne (tgt := 123) hx hb dX6_feed_115 (by decide) (fun c_76 => ?_) (fun c_76 => ?_)
                · exact absurd (by decide) c_76
                refine lv_iload hx hb dX6_feed_118 (lv_at hl 6 rfl) ?_
                refine lv_goto (tgt := 125) hx hb dX6_feed_120 (by decide) ?_
                refine va_iast (D := G.1) hx hb hK hP hD hS 1 0 rfl rfl (i := 3) (x := v4) (gIn (by decide)) dX6_feed_125 (fun H locs hP hD hS => ?_)
                have hP : va_P G.1 vwCl [(h0, .inr (6, [.int 0, .ref kd, .ref mo, .ref st, .int 0, .ref ro, .ref tp, .int 3, .ref cd, .ref sr, .int 1, .int 0, .int 0, .ref ir, .ref ih, .ref ss, .ref sq, .ref ce, .ref lw, .int 40, .int 40, .int 0, .int 0, .ref wo, .ref he, .int 0, .int 0, .int 5, .ref sk, .ref na, .ref kp, .int 0, .int 0, .int 0, .int 0, .ref gb, .ref go, .ref fa, .ref ga, .int 0, .int 0, .ref vo])), (tp, .inl (G.2.1, 160, .inl (upd (upd (upd (upd (gPf tB 40) 0 v1) 1 v2) 2 v3) 3 v4)))] H := hP
                have hD : va_D A [(h0, .inr (6, [.int 0, .ref kd, .ref mo, .ref st, .int 0, .ref ro, .ref tp, .int 3, .ref cd, .ref sr, .int 1, .int 0, .int 0, .ref ir, .ref ih, .ref ss, .ref sq, .ref ce, .ref lw, .int 40, .int 40, .int 0, .int 0, .ref wo, .ref he, .int 0, .int 0, .int 5, .ref sk, .ref na, .ref kp, .int 0, .int 0, .int 0, .int 0, .ref gb, .ref go, .ref fa, .ref ga, .int 0, .int 0, .ref vo])), (tp, .inl (G.2.1, 160, .inl (upd (upd (upd (upd (gPf tB 40) 0 v1) 1 v2) 2 v3) 3 v4)))] := hD
                refine lv_aload_n hx hb dX6_feed_126 rfl (lv_at hl 1 rfl) ?_
                refine lv_dup hx hb dX6_feed_127 rfl ?_
                refine va_get (D := G.1) (ci := 6) (v := .int 3) (C := RX6) (T := TX6) (N := 42) hx hb hts hiX6 hown hK hP 0 rfl rfl 7 (by decide) kf80 (fun _ h9 => h9) rfl dX6_feed_128 ?_
                refine lv_iconst (v := 1) hx hb dX6_feed_131 (by decide) ?_
                refine lv_iadd hx hb dX6_feed_132 ?_
                refine lv_topi (fun v_77 ev_77 => ?_)
                have ev_77 : v_77 = 4 := ev_77.trans (by decide)
                subst ev_77
                refine va_put (D := G.1) (ci := 6) (v := .int 4) (ty := .int) (C := RX6) (T := TX6) (N := 42) hx hb hts hiX6 tyX6 tyX6_ok nmX6 hown hK hP hD hS 0 rfl rfl 7 (by decide) kf80 (fun _ h9 => h9) rfl (by decide +kernel) rfl rfl (Nat.le_of_ble_eq_true rfl) dX6_feed_133 (fun H locs hP hD hS => ?_)
                have hP : va_P G.1 vwCl [(h0, .inr (6, [.int 0, .ref kd, .ref mo, .ref st, .int 0, .ref ro, .ref tp, .int 4, .ref cd, .ref sr, .int 1, .int 0, .int 0, .ref ir, .ref ih, .ref ss, .ref sq, .ref ce, .ref lw, .int 40, .int 40, .int 0, .int 0, .ref wo, .ref he, .int 0, .int 0, .int 5, .ref sk, .ref na, .ref kp, .int 0, .int 0, .int 0, .int 0, .ref gb, .ref go, .ref fa, .ref ga, .int 0, .int 0, .ref vo])), (tp, .inl (G.2.1, 160, .inl (upd (upd (upd (upd (gPf tB 40) 0 v1) 1 v2) 2 v3) 3 v4)))] H := hP
                have hD : va_D A [(h0, .inr (6, [.int 0, .ref kd, .ref mo, .ref st, .int 0, .ref ro, .ref tp, .int 4, .ref cd, .ref sr, .int 1, .int 0, .int 0, .ref ir, .ref ih, .ref ss, .ref sq, .ref ce, .ref lw, .int 40, .int 40, .int 0, .int 0, .ref wo, .ref he, .int 0, .int 0, .int 5, .ref sk, .ref na, .ref kp, .int 0, .int 0, .int 0, .int 0, .ref gb, .ref go, .ref fa, .ref ga, .int 0, .int 0, .ref vo])), (tp, .inl (G.2.1, 160, .inl (upd (upd (upd (upd (gPf tB 40) 0 v1) 1 v2) 2 v3) 3 v4)))] := hD
                refine lv_iinc (v := 4) (lv' := [(7, .int 4), (0, .ref h0), (1, .int v0), (2, .int v1), (3, .int v2), (4, .int v3), (5, .int v4), (6, .int v5)]) hx hb dX6_feed_136 hl (k := 0) rfl (by decide) (by decide) rfl (fun ls hl => ?_)
                refine lv_goto (tgt := 68) hx hb dX6_feed_139 (by decide) ?_
                refine lv_iload hx hb dX6_feed_68 (lv_at hl 0 rfl) ?_
                refine lv_iload_n hx hb dX6_feed_70 rfl (lv_at hl 2 rfl) ?_
                refine lv_icmp_ge (tgt := 142) hx hb dX6_feed_71 (by decide) (fun c_78 => ?_) (fun c_78 => ?_)
                rotate_left
                · exact absurd (by rw [hk]; decide) c_78
                refine lv_aload_n hx hb dX6_feed_142 rfl (lv_at hl 1 rfl) ?_
                refine va_get (D := G.1) (ci := 6) (v := .int 4) (C := RX6) (T := TX6) (N := 42) hx hb hts hiX6 hown hK hP 0 rfl rfl 7 (by decide) kf80 (fun _ h9 => h9) rfl dX6_feed_143 ?_
                have hpost : (fun (r : Int32) (u : Unit) => match u with | _ => r = (if (1 ≤ v0 ∧ v0 ≤ 5) ∧ (0 ≤ v1 ∧ v1 ≤ 255) ∧ (0 ≤ v2 ∧ v2 ≤ 255) ∧ (0 ≤ v3 ∧ v3 ≤ 255) ∧ (0 ≤ v4 ∧ v4 ≤ 255) ∧ (0 ≤ v5 ∧ v5 ≤ 255) then v0 else -2)) 4 () := pp_X6_feed_0_9 v0 v1 v2 v3 v4 v5 p_4 p_9 p_14 p_19 p_24 p_29 hk
                exact W.iret (v := 4) hx hb hr (fun t ht hW => ⟨⟨4, (), rfl, hpost, trivial⟩, hS.F ht⟩) hS.2.2 dX6_feed_146
              · skip
                refine lv_aload_n hx hb dX6_feed_50 rfl (lv_at hl 0 rfl) ?_
                refine va_get (D := G.1) (ci := 6) (v := .int 0) (C := RX6) (T := TX6) (N := 42) hx hb hts hiX6 hown hK hP 0 rfl rfl 7 (by decide) kf80 (fun _ h9 => h9) rfl dX6_feed_51 ?_
                refine lv_iload_n hx hb dX6_feed_54 rfl (lv_at hl 1 rfl) ?_
                refine lv_iadd hx hb dX6_feed_55 ?_
                refine lv_sipush (v := 160) hx hb dX6_feed_56 (by decide) ?_
                refine lv_icmp_le (tgt := 65) hx hb dX6_feed_59 (by decide) (fun c_79 => ?_) (fun c_79 => ?_)
                rotate_left
                · exact absurd (by rw [hk]; decide) c_79
                refine lv_iconst (v := 0) hx hb dX6_feed_65 (by decide) ?_
                refine lv_istore (lv' := [(7, .int 0), (0, .ref h0), (1, .int v0), (2, .int v1), (3, .int v2), (4, .int v3), (5, .int v4), (6, .int v5)]) hx hb dX6_feed_66 hl (by decide) rfl (fun ls hl => ?_)
                refine lv_iload hx hb dX6_feed_68 (lv_at hl 0 rfl) ?_
                refine lv_iload_n hx hb dX6_feed_70 rfl (lv_at hl 2 rfl) ?_
                refine lv_icmp_ge (tgt := 142) hx hb dX6_feed_71 (by decide) (fun c_80 => ?_) (fun c_80 => ?_)
                · exact absurd c_80 (by rw [hk]; decide)
                refine lv_aload_n hx hb dX6_feed_74 rfl (lv_at hl 1 rfl) ?_
                refine va_get (D := G.1) (ci := 6) (v := .ref tp) (C := RX6) (T := TX6) (N := 42) hx hb hts hiX6 hown hK hP 0 rfl rfl 6 (by decide) kf22 (fun _ h9 => h9) rfl dX6_feed_75 ?_
                refine lv_aload_n hx hb dX6_feed_78 rfl (lv_at hl 1 rfl) ?_
                refine va_get (D := G.1) (ci := 6) (v := .int 0) (C := RX6) (T := TX6) (N := 42) hx hb hts hiX6 hown hK hP 0 rfl rfl 7 (by decide) kf80 (fun _ h9 => h9) rfl dX6_feed_79 ?_
                refine lv_iload hx hb dX6_feed_82 (lv_at hl 0 rfl) ?_
                refine lv_if_ne (tgt := 91) hx hb dX6_feed_84 (by decide) (fun c_81 => ?_) (fun c_81 => ?_)
                · exact absurd (by decide) c_81
                refine lv_iload_n hx hb dX6_feed_87 rfl (lv_at hl 3 rfl) ?_
                refine lv_goto (tgt := 125) hx hb dX6_feed_88 (by decide) ?_
                refine va_iast (D := G.1) hx hb hK hP hD hS 1 0 rfl rfl (i := 0) (x := v1) (gIn (by decide)) dX6_feed_125 (fun H locs hP hD hS => ?_)
                have hP : va_P G.1 vwCl [(h0, .inr (6, [.int 0, .ref kd, .ref mo, .ref st, .int 0, .ref ro, .ref tp, .int 0, .ref cd, .ref sr, .int 1, .int 0, .int 0, .ref ir, .ref ih, .ref ss, .ref sq, .ref ce, .ref lw, .int 40, .int 40, .int 0, .int 0, .ref wo, .ref he, .int 0, .int 0, .int 5, .ref sk, .ref na, .ref kp, .int 0, .int 0, .int 0, .int 0, .ref gb, .ref go, .ref fa, .ref ga, .int 0, .int 0, .ref vo])), (tp, .inl (G.2.1, 160, .inl (upd (gPf tB 40) 0 v1)))] H := hP
                have hD : va_D A [(h0, .inr (6, [.int 0, .ref kd, .ref mo, .ref st, .int 0, .ref ro, .ref tp, .int 0, .ref cd, .ref sr, .int 1, .int 0, .int 0, .ref ir, .ref ih, .ref ss, .ref sq, .ref ce, .ref lw, .int 40, .int 40, .int 0, .int 0, .ref wo, .ref he, .int 0, .int 0, .int 5, .ref sk, .ref na, .ref kp, .int 0, .int 0, .int 0, .int 0, .ref gb, .ref go, .ref fa, .ref ga, .int 0, .int 0, .ref vo])), (tp, .inl (G.2.1, 160, .inl (upd (gPf tB 40) 0 v1)))] := hD
                refine lv_aload_n hx hb dX6_feed_126 rfl (lv_at hl 1 rfl) ?_
                refine lv_dup hx hb dX6_feed_127 rfl ?_
                refine va_get (D := G.1) (ci := 6) (v := .int 0) (C := RX6) (T := TX6) (N := 42) hx hb hts hiX6 hown hK hP 0 rfl rfl 7 (by decide) kf80 (fun _ h9 => h9) rfl dX6_feed_128 ?_
                refine lv_iconst (v := 1) hx hb dX6_feed_131 (by decide) ?_
                refine lv_iadd hx hb dX6_feed_132 ?_
                refine lv_topi (fun v_82 ev_82 => ?_)
                have ev_82 : v_82 = 1 := ev_82.trans (by decide)
                subst ev_82
                refine va_put (D := G.1) (ci := 6) (v := .int 1) (ty := .int) (C := RX6) (T := TX6) (N := 42) hx hb hts hiX6 tyX6 tyX6_ok nmX6 hown hK hP hD hS 0 rfl rfl 7 (by decide) kf80 (fun _ h9 => h9) rfl (by decide +kernel) rfl rfl (Nat.le_of_ble_eq_true rfl) dX6_feed_133 (fun H locs hP hD hS => ?_)
                have hP : va_P G.1 vwCl [(h0, .inr (6, [.int 0, .ref kd, .ref mo, .ref st, .int 0, .ref ro, .ref tp, .int 1, .ref cd, .ref sr, .int 1, .int 0, .int 0, .ref ir, .ref ih, .ref ss, .ref sq, .ref ce, .ref lw, .int 40, .int 40, .int 0, .int 0, .ref wo, .ref he, .int 0, .int 0, .int 5, .ref sk, .ref na, .ref kp, .int 0, .int 0, .int 0, .int 0, .ref gb, .ref go, .ref fa, .ref ga, .int 0, .int 0, .ref vo])), (tp, .inl (G.2.1, 160, .inl (upd (gPf tB 40) 0 v1)))] H := hP
                have hD : va_D A [(h0, .inr (6, [.int 0, .ref kd, .ref mo, .ref st, .int 0, .ref ro, .ref tp, .int 1, .ref cd, .ref sr, .int 1, .int 0, .int 0, .ref ir, .ref ih, .ref ss, .ref sq, .ref ce, .ref lw, .int 40, .int 40, .int 0, .int 0, .ref wo, .ref he, .int 0, .int 0, .int 5, .ref sk, .ref na, .ref kp, .int 0, .int 0, .int 0, .int 0, .ref gb, .ref go, .ref fa, .ref ga, .int 0, .int 0, .ref vo])), (tp, .inl (G.2.1, 160, .inl (upd (gPf tB 40) 0 v1)))] := hD
                refine lv_iinc (v := 1) (lv' := [(7, .int 1), (0, .ref h0), (1, .int v0), (2, .int v1), (3, .int v2), (4, .int v3), (5, .int v4), (6, .int v5)]) hx hb dX6_feed_136 hl (k := 0) rfl (by decide) (by decide) rfl (fun ls hl => ?_)
                refine lv_goto (tgt := 68) hx hb dX6_feed_139 (by decide) ?_
                refine lv_iload hx hb dX6_feed_68 (lv_at hl 0 rfl) ?_
                refine lv_iload_n hx hb dX6_feed_70 rfl (lv_at hl 2 rfl) ?_
                refine lv_icmp_ge (tgt := 142) hx hb dX6_feed_71 (by decide) (fun c_83 => ?_) (fun c_83 => ?_)
                · exact absurd c_83 (by rw [hk]; decide)
                refine lv_aload_n hx hb dX6_feed_74 rfl (lv_at hl 1 rfl) ?_
                refine va_get (D := G.1) (ci := 6) (v := .ref tp) (C := RX6) (T := TX6) (N := 42) hx hb hts hiX6 hown hK hP 0 rfl rfl 6 (by decide) kf22 (fun _ h9 => h9) rfl dX6_feed_75 ?_
                refine lv_aload_n hx hb dX6_feed_78 rfl (lv_at hl 1 rfl) ?_
                refine va_get (D := G.1) (ci := 6) (v := .int 1) (C := RX6) (T := TX6) (N := 42) hx hb hts hiX6 hown hK hP 0 rfl rfl 7 (by decide) kf80 (fun _ h9 => h9) rfl dX6_feed_79 ?_
                refine lv_iload hx hb dX6_feed_82 (lv_at hl 0 rfl) ?_
                refine lv_if_ne (tgt := 91) hx hb dX6_feed_84 (by decide) (fun c_84 => ?_) (fun c_84 => ?_)
                rotate_left
                · exact absurd c_84 (by decide)
                refine lv_iload hx hb dX6_feed_91 (lv_at hl 0 rfl) ?_
                refine lv_iconst (v := 1) hx hb dX6_feed_93 (by decide) ?_
                refine lv_icmp_ne (tgt := 101) hx hb dX6_feed_94 (by decide) (fun c_85 => ?_) (fun c_85 => ?_)
                · exact absurd (by decide) c_85
                refine lv_iload_n hx hb dX6_feed_97 rfl (lv_at hl 4 rfl) ?_
                refine lv_goto (tgt := 125) hx hb dX6_feed_98 (by decide) ?_
                refine va_iast (D := G.1) hx hb hK hP hD hS 1 0 rfl rfl (i := 1) (x := v2) (gIn (by decide)) dX6_feed_125 (fun H locs hP hD hS => ?_)
                have hP : va_P G.1 vwCl [(h0, .inr (6, [.int 0, .ref kd, .ref mo, .ref st, .int 0, .ref ro, .ref tp, .int 1, .ref cd, .ref sr, .int 1, .int 0, .int 0, .ref ir, .ref ih, .ref ss, .ref sq, .ref ce, .ref lw, .int 40, .int 40, .int 0, .int 0, .ref wo, .ref he, .int 0, .int 0, .int 5, .ref sk, .ref na, .ref kp, .int 0, .int 0, .int 0, .int 0, .ref gb, .ref go, .ref fa, .ref ga, .int 0, .int 0, .ref vo])), (tp, .inl (G.2.1, 160, .inl (upd (upd (gPf tB 40) 0 v1) 1 v2)))] H := hP
                have hD : va_D A [(h0, .inr (6, [.int 0, .ref kd, .ref mo, .ref st, .int 0, .ref ro, .ref tp, .int 1, .ref cd, .ref sr, .int 1, .int 0, .int 0, .ref ir, .ref ih, .ref ss, .ref sq, .ref ce, .ref lw, .int 40, .int 40, .int 0, .int 0, .ref wo, .ref he, .int 0, .int 0, .int 5, .ref sk, .ref na, .ref kp, .int 0, .int 0, .int 0, .int 0, .ref gb, .ref go, .ref fa, .ref ga, .int 0, .int 0, .ref vo])), (tp, .inl (G.2.1, 160, .inl (upd (upd (gPf tB 40) 0 v1) 1 v2)))] := hD
                refine lv_aload_n hx hb dX6_feed_126 rfl (lv_at hl 1 rfl) ?_
                refine lv_dup hx hb dX6_feed_127 rfl ?_
                refine va_get (D := G.1) (ci := 6) (v := .int 1) (C := RX6) (T := TX6) (N := 42) hx hb hts hiX6 hown hK hP 0 rfl rfl 7 (by decide) kf80 (fun _ h9 => h9) rfl dX6_feed_128 ?_
                refine lv_iconst (v := 1) hx hb dX6_feed_131 (by decide) ?_
                refine lv_iadd hx hb dX6_feed_132 ?_
                refine lv_topi (fun v_86 ev_86 => ?_)
                have ev_86 : v_86 = 2 := ev_86.trans (by decide)
                subst ev_86
                refine va_put (D := G.1) (ci := 6) (v := .int 2) (ty := .int) (C := RX6) (T := TX6) (N := 42) hx hb hts hiX6 tyX6 tyX6_ok nmX6 hown hK hP hD hS 0 rfl rfl 7 (by decide) kf80 (fun _ h9 => h9) rfl (by decide +kernel) rfl rfl (Nat.le_of_ble_eq_true rfl) dX6_feed_133 (fun H locs hP hD hS => ?_)
                have hP : va_P G.1 vwCl [(h0, .inr (6, [.int 0, .ref kd, .ref mo, .ref st, .int 0, .ref ro, .ref tp, .int 2, .ref cd, .ref sr, .int 1, .int 0, .int 0, .ref ir, .ref ih, .ref ss, .ref sq, .ref ce, .ref lw, .int 40, .int 40, .int 0, .int 0, .ref wo, .ref he, .int 0, .int 0, .int 5, .ref sk, .ref na, .ref kp, .int 0, .int 0, .int 0, .int 0, .ref gb, .ref go, .ref fa, .ref ga, .int 0, .int 0, .ref vo])), (tp, .inl (G.2.1, 160, .inl (upd (upd (gPf tB 40) 0 v1) 1 v2)))] H := hP
                have hD : va_D A [(h0, .inr (6, [.int 0, .ref kd, .ref mo, .ref st, .int 0, .ref ro, .ref tp, .int 2, .ref cd, .ref sr, .int 1, .int 0, .int 0, .ref ir, .ref ih, .ref ss, .ref sq, .ref ce, .ref lw, .int 40, .int 40, .int 0, .int 0, .ref wo, .ref he, .int 0, .int 0, .int 5, .ref sk, .ref na, .ref kp, .int 0, .int 0, .int 0, .int 0, .ref gb, .ref go, .ref fa, .ref ga, .int 0, .int 0, .ref vo])), (tp, .inl (G.2.1, 160, .inl (upd (upd (gPf tB 40) 0 v1) 1 v2)))] := hD
                refine lv_iinc (v := 2) (lv' := [(7, .int 2), (0, .ref h0), (1, .int v0), (2, .int v1), (3, .int v2), (4, .int v3), (5, .int v4), (6, .int v5)]) hx hb dX6_feed_136 hl (k := 0) rfl (by decide) (by decide) rfl (fun ls hl => ?_)
                refine lv_goto (tgt := 68) hx hb dX6_feed_139 (by decide) ?_
                refine lv_iload hx hb dX6_feed_68 (lv_at hl 0 rfl) ?_
                refine lv_iload_n hx hb dX6_feed_70 rfl (lv_at hl 2 rfl) ?_
                refine lv_icmp_ge (tgt := 142) hx hb dX6_feed_71 (by decide) (fun c_87 => ?_) (fun c_87 => ?_)
                · exact absurd c_87 (by rw [hk]; decide)
                refine lv_aload_n hx hb dX6_feed_74 rfl (lv_at hl 1 rfl) ?_
                refine va_get (D := G.1) (ci := 6) (v := .ref tp) (C := RX6) (T := TX6) (N := 42) hx hb hts hiX6 hown hK hP 0 rfl rfl 6 (by decide) kf22 (fun _ h9 => h9) rfl dX6_feed_75 ?_
                refine lv_aload_n hx hb dX6_feed_78 rfl (lv_at hl 1 rfl) ?_
                refine va_get (D := G.1) (ci := 6) (v := .int 2) (C := RX6) (T := TX6) (N := 42) hx hb hts hiX6 hown hK hP 0 rfl rfl 7 (by decide) kf80 (fun _ h9 => h9) rfl dX6_feed_79 ?_
                refine lv_iload hx hb dX6_feed_82 (lv_at hl 0 rfl) ?_
                refine lv_if_ne (tgt := 91) hx hb dX6_feed_84 (by decide) (fun c_88 => ?_) (fun c_88 => ?_)
                rotate_left
                · exact absurd c_88 (by decide)
                refine lv_iload hx hb dX6_feed_91 (lv_at hl 0 rfl) ?_
                refine lv_iconst (v := 1) hx hb dX6_feed_93 (by decide) ?_
                refine lv_icmp_ne (tgt := 101) hx hb dX6_feed_94 (by decide) (fun c_89 => ?_) (fun c_89 => ?_)
                rotate_left
                · exact absurd c_89 (by decide)
                refine lv_iload hx hb dX6_feed_101 (lv_at hl 0 rfl) ?_
                refine lv_iconst (v := 2) hx hb dX6_feed_103 (by decide) ?_
                refine lv_icmp_ne (tgt := 112) hx hb dX6_feed_104 (by decide) (fun c_90 => ?_) (fun c_90 => ?_)
                · exact absurd (by decide) c_90
                refine lv_iload hx hb dX6_feed_107 (lv_at hl 5 rfl) ?_
                refine lv_goto (tgt := 125) hx hb dX6_feed_109 (by decide) ?_
                refine va_iast (D := G.1) hx hb hK hP hD hS 1 0 rfl rfl (i := 2) (x := v3) (gIn (by decide)) dX6_feed_125 (fun H locs hP hD hS => ?_)
                have hP : va_P G.1 vwCl [(h0, .inr (6, [.int 0, .ref kd, .ref mo, .ref st, .int 0, .ref ro, .ref tp, .int 2, .ref cd, .ref sr, .int 1, .int 0, .int 0, .ref ir, .ref ih, .ref ss, .ref sq, .ref ce, .ref lw, .int 40, .int 40, .int 0, .int 0, .ref wo, .ref he, .int 0, .int 0, .int 5, .ref sk, .ref na, .ref kp, .int 0, .int 0, .int 0, .int 0, .ref gb, .ref go, .ref fa, .ref ga, .int 0, .int 0, .ref vo])), (tp, .inl (G.2.1, 160, .inl (upd (upd (upd (gPf tB 40) 0 v1) 1 v2) 2 v3)))] H := hP
                have hD : va_D A [(h0, .inr (6, [.int 0, .ref kd, .ref mo, .ref st, .int 0, .ref ro, .ref tp, .int 2, .ref cd, .ref sr, .int 1, .int 0, .int 0, .ref ir, .ref ih, .ref ss, .ref sq, .ref ce, .ref lw, .int 40, .int 40, .int 0, .int 0, .ref wo, .ref he, .int 0, .int 0, .int 5, .ref sk, .ref na, .ref kp, .int 0, .int 0, .int 0, .int 0, .ref gb, .ref go, .ref fa, .ref ga, .int 0, .int 0, .ref vo])), (tp, .inl (G.2.1, 160, .inl (upd (upd (upd (gPf tB 40) 0 v1) 1 v2) 2 v3)))] := hD
                refine lv_aload_n hx hb dX6_feed_126 rfl (lv_at hl 1 rfl) ?_
                refine lv_dup hx hb dX6_feed_127 rfl ?_
                refine va_get (D := G.1) (ci := 6) (v := .int 2) (C := RX6) (T := TX6) (N := 42) hx hb hts hiX6 hown hK hP 0 rfl rfl 7 (by decide) kf80 (fun _ h9 => h9) rfl dX6_feed_128 ?_
                refine lv_iconst (v := 1) hx hb dX6_feed_131 (by decide) ?_
                refine lv_iadd hx hb dX6_feed_132 ?_
                refine lv_topi (fun v_91 ev_91 => ?_)
                have ev_91 : v_91 = 3 := ev_91.trans (by decide)
                subst ev_91
                refine va_put (D := G.1) (ci := 6) (v := .int 3) (ty := .int) (C := RX6) (T := TX6) (N := 42) hx hb hts hiX6 tyX6 tyX6_ok nmX6 hown hK hP hD hS 0 rfl rfl 7 (by decide) kf80 (fun _ h9 => h9) rfl (by decide +kernel) rfl rfl (Nat.le_of_ble_eq_true rfl) dX6_feed_133 (fun H locs hP hD hS => ?_)
                have hP : va_P G.1 vwCl [(h0, .inr (6, [.int 0, .ref kd, .ref mo, .ref st, .int 0, .ref ro, .ref tp, .int 3, .ref cd, .ref sr, .int 1, .int 0, .int 0, .ref ir, .ref ih, .ref ss, .ref sq, .ref ce, .ref lw, .int 40, .int 40, .int 0, .int 0, .ref wo, .ref he, .int 0, .int 0, .int 5, .ref sk, .ref na, .ref kp, .int 0, .int 0, .int 0, .int 0, .ref gb, .ref go, .ref fa, .ref ga, .int 0, .int 0, .ref vo])), (tp, .inl (G.2.1, 160, .inl (upd (upd (upd (gPf tB 40) 0 v1) 1 v2) 2 v3)))] H := hP
                have hD : va_D A [(h0, .inr (6, [.int 0, .ref kd, .ref mo, .ref st, .int 0, .ref ro, .ref tp, .int 3, .ref cd, .ref sr, .int 1, .int 0, .int 0, .ref ir, .ref ih, .ref ss, .ref sq, .ref ce, .ref lw, .int 40, .int 40, .int 0, .int 0, .ref wo, .ref he, .int 0, .int 0, .int 5, .ref sk, .ref na, .ref kp, .int 0, .int 0, .int 0, .int 0, .ref gb, .ref go, .ref fa, .ref ga, .int 0, .int 0, .ref vo])), (tp, .inl (G.2.1, 160, .inl (upd (upd (upd (gPf tB 40) 0 v1) 1 v2) 2 v3)))] := hD
                refine lv_iinc (v := 3) (lv' := [(7, .int 3), (0, .ref h0), (1, .int v0), (2, .int v1), (3, .int v2), (4, .int v3), (5, .int v4), (6, .int v5)]) hx hb dX6_feed_136 hl (k := 0) rfl (by decide) (by decide) rfl (fun ls hl => ?_)
                refine lv_goto (tgt := 68) hx hb dX6_feed_139 (by decide) ?_
                refine lv_iload hx hb dX6_feed_68 (lv_at hl 0 rfl) ?_
                refine lv_iload_n hx hb dX6_feed_70 rfl (lv_at hl 2 rfl) ?_
                refine lv_icmp_ge (tgt := 142) hx hb dX6_feed_71 (by decide) (fun c_92 => ?_) (fun c_92 => ?_)
                · exact absurd c_92 (by rw [hk]; decide)
                refine lv_aload_n hx hb dX6_feed_74 rfl (lv_at hl 1 rfl) ?_
                refine va_get (D := G.1) (ci := 6) (v := .ref tp) (C := RX6) (T := TX6) (N := 42) hx hb hts hiX6 hown hK hP 0 rfl rfl 6 (by decide) kf22 (fun _ h9 => h9) rfl dX6_feed_75 ?_
                refine lv_aload_n hx hb dX6_feed_78 rfl (lv_at hl 1 rfl) ?_
                refine va_get (D := G.1) (ci := 6) (v := .int 3) (C := RX6) (T := TX6) (N := 42) hx hb hts hiX6 hown hK hP 0 rfl rfl 7 (by decide) kf80 (fun _ h9 => h9) rfl dX6_feed_79 ?_
                refine lv_iload hx hb dX6_feed_82 (lv_at hl 0 rfl) ?_
                refine lv_if_ne (tgt := 91) hx hb dX6_feed_84 (by decide) (fun c_93 => ?_) (fun c_93 => ?_)
                rotate_left
                · exact absurd c_93 (by decide)
                refine lv_iload hx hb dX6_feed_91 (lv_at hl 0 rfl) ?_
                refine lv_iconst (v := 1) hx hb dX6_feed_93 (by decide) ?_
                refine lv_icmp_ne (tgt := 101) hx hb dX6_feed_94 (by decide) (fun c_94 => ?_) (fun c_94 => ?_)
                rotate_left
                · exact absurd c_94 (by decide)
                refine lv_iload hx hb dX6_feed_101 (lv_at hl 0 rfl) ?_
                refine lv_iconst (v := 2) hx hb dX6_feed_103 (by decide) ?_
                refine lv_icmp_ne (tgt := 112) hx hb dX6_feed_104 (by decide) (fun c_95 => ?_) (fun c_95 => ?_)
                rotate_left
                · exact absurd c_95 (by decide)
                refine lv_iload hx hb dX6_feed_112 (lv_at hl 0 rfl) ?_
                refine lv_iconst (v := 3) hx hb dX6_feed_114 (by decide) ?_
                refine lv_icmp_ne (tgt := 123) hx hb dX6_feed_115 (by decide) (fun c_96 => ?_) (fun c_96 => ?_)
                · exact absurd (by decide) c_96
                refine lv_iload hx hb dX6_feed_118 (lv_at hl 6 rfl) ?_
                refine lv_goto (tgt := 125) hx hb dX6_feed_120 (by decide) ?_
                refine va_iast (D := G.1) hx hb hK hP hD hS 1 0 rfl rfl (i := 3) (x := v4) (gIn (by decide)) dX6_feed_125 (fun H locs hP hD hS => ?_)
                have hP : va_P G.1 vwCl [(h0, .inr (6, [.int 0, .ref kd, .ref mo, .ref st, .int 0, .ref ro, .ref tp, .int 3, .ref cd, .ref sr, .int 1, .int 0, .int 0, .ref ir, .ref ih, .ref ss, .ref sq, .ref ce, .ref lw, .int 40, .int 40, .int 0, .int 0, .ref wo, .ref he, .int 0, .int 0, .int 5, .ref sk, .ref na, .ref kp, .int 0, .int 0, .int 0, .int 0, .ref gb, .ref go, .ref fa, .ref ga, .int 0, .int 0, .ref vo])), (tp, .inl (G.2.1, 160, .inl (upd (upd (upd (upd (gPf tB 40) 0 v1) 1 v2) 2 v3) 3 v4)))] H := hP
                have hD : va_D A [(h0, .inr (6, [.int 0, .ref kd, .ref mo, .ref st, .int 0, .ref ro, .ref tp, .int 3, .ref cd, .ref sr, .int 1, .int 0, .int 0, .ref ir, .ref ih, .ref ss, .ref sq, .ref ce, .ref lw, .int 40, .int 40, .int 0, .int 0, .ref wo, .ref he, .int 0, .int 0, .int 5, .ref sk, .ref na, .ref kp, .int 0, .int 0, .int 0, .int 0, .ref gb, .ref go, .ref fa, .ref ga, .int 0, .int 0, .ref vo])), (tp, .inl (G.2.1, 160, .inl (upd (upd (upd (upd (gPf tB 40) 0 v1) 1 v2) 2 v3) 3 v4)))] := hD
                refine lv_aload_n hx hb dX6_feed_126 rfl (lv_at hl 1 rfl) ?_
                refine lv_dup hx hb dX6_feed_127 rfl ?_
                refine va_get (D := G.1) (ci := 6) (v := .int 3) (C := RX6) (T := TX6) (N := 42) hx hb hts hiX6 hown hK hP 0 rfl rfl 7 (by decide) kf80 (fun _ h9 => h9) rfl dX6_feed_128 ?_
                refine lv_iconst (v := 1) hx hb dX6_feed_131 (by decide) ?_
                refine lv_iadd hx hb dX6_feed_132 ?_
                refine lv_topi (fun v_97 ev_97 => ?_)
                have ev_97 : v_97 = 4 := ev_97.trans (by decide)
                subst ev_97
                refine va_put (D := G.1) (ci := 6) (v := .int 4) (ty := .int) (C := RX6) (T := TX6) (N := 42) hx hb hts hiX6 tyX6 tyX6_ok nmX6 hown hK hP hD hS 0 rfl rfl 7 (by decide) kf80 (fun _ h9 => h9) rfl (by decide +kernel) rfl rfl (Nat.le_of_ble_eq_true rfl) dX6_feed_133 (fun H locs hP hD hS => ?_)
                have hP : va_P G.1 vwCl [(h0, .inr (6, [.int 0, .ref kd, .ref mo, .ref st, .int 0, .ref ro, .ref tp, .int 4, .ref cd, .ref sr, .int 1, .int 0, .int 0, .ref ir, .ref ih, .ref ss, .ref sq, .ref ce, .ref lw, .int 40, .int 40, .int 0, .int 0, .ref wo, .ref he, .int 0, .int 0, .int 5, .ref sk, .ref na, .ref kp, .int 0, .int 0, .int 0, .int 0, .ref gb, .ref go, .ref fa, .ref ga, .int 0, .int 0, .ref vo])), (tp, .inl (G.2.1, 160, .inl (upd (upd (upd (upd (gPf tB 40) 0 v1) 1 v2) 2 v3) 3 v4)))] H := hP
                have hD : va_D A [(h0, .inr (6, [.int 0, .ref kd, .ref mo, .ref st, .int 0, .ref ro, .ref tp, .int 4, .ref cd, .ref sr, .int 1, .int 0, .int 0, .ref ir, .ref ih, .ref ss, .ref sq, .ref ce, .ref lw, .int 40, .int 40, .int 0, .int 0, .ref wo, .ref he, .int 0, .int 0, .int 5, .ref sk, .ref na, .ref kp, .int 0, .int 0, .int 0, .int 0, .ref gb, .ref go, .ref fa, .ref ga, .int 0, .int 0, .ref vo])), (tp, .inl (G.2.1, 160, .inl (upd (upd (upd (upd (gPf tB 40) 0 v1) 1 v2) 2 v3) 3 v4)))] := hD
                refine lv_iinc (v := 4) (lv' := [(7, .int 4), (0, .ref h0), (1, .int v0), (2, .int v1), (3, .int v2), (4, .int v3), (5, .int v4), (6, .int v5)]) hx hb dX6_feed_136 hl (k := 0) rfl (by decide) (by decide) rfl (fun ls hl => ?_)
                refine lv_goto (tgt := 68) hx hb dX6_feed_139 (by decide) ?_
                refine lv_iload hx hb dX6_feed_68 (lv_at hl 0 rfl) ?_
                refine lv_iload_n hx hb dX6_feed_70 rfl (lv_at hl 2 rfl) ?_
                refine lv_icmp_ge (tgt := 142) hx hb dX6_feed_71 (by decide) (fun c_98 => ?_) (fun c_98 => ?_)
                · exact absurd c_98 (by rw [hk]; decide)
                refine lv_aload_n hx hb dX6_feed_74 rfl (lv_at hl 1 rfl) ?_
                refine va_get (D := G.1) (ci := 6) (v := .ref tp) (C := RX6) (T := TX6) (N := 42) hx hb hts hiX6 hown hK hP 0 rfl rfl 6 (by decide) kf22 (fun _ h9 => h9) rfl dX6_feed_75 ?_
                refine lv_aload_n hx hb dX6_feed_78 rfl (lv_at hl 1 rfl) ?_
                refine va_get (D := G.1) (ci := 6) (v := .int 4) (C := RX6) (T := TX6) (N := 42) hx hb hts hiX6 hown hK hP 0 rfl rfl 7 (by decide) kf80 (fun _ h9 => h9) rfl dX6_feed_79 ?_
                refine lv_iload hx hb dX6_feed_82 (lv_at hl 0 rfl) ?_
                refine lv_if_ne (tgt := 91) hx hb dX6_feed_84 (by decide) (fun c_99 => ?_) (fun c_99 => ?_)
                rotate_left
                · exact absurd c_99 (by decide)
                refine lv_iload hx hb dX6_feed_91 (lv_at hl 0 rfl) ?_
                refine lv_iconst (v := 1) hx hb dX6_feed_93 (by decide) ?_
                refine lv_icmp_ne (tgt := 101) hx hb dX6_feed_94 (by decide) (fun c_100 => ?_) (fun c_100 => ?_)
                rotate_left
                · exact absurd c_100 (by decide)
                refine lv_iload hx hb dX6_feed_101 (lv_at hl 0 rfl) ?_
                refine lv_iconst (v := 2) hx hb dX6_feed_103 (by decide) ?_
                refine lv_icmp_ne (tgt := 112) hx hb dX6_feed_104 (by decide) (fun c_101 => ?_) (fun c_101 => ?_)
                rotate_left
                · exact absurd c_101 (by decide)
                refine lv_iload hx hb dX6_feed_112 (lv_at hl 0 rfl) ?_
                refine lv_iconst (v := 3) hx hb dX6_feed_114 (by decide) ?_
                refine lv_icmp_ne (tgt := 123) hx hb dX6_feed_115 (by decide) (fun c_102 => ?_) (fun c_102 => ?_)
                rotate_left
                · exact absurd c_102 (by decide)
                refine lv_iload hx hb dX6_feed_123 (lv_at hl 7 rfl) ?_
                refine va_iast (D := G.1) hx hb hK hP hD hS 1 0 rfl rfl (i := 4) (x := v5) (gIn (by decide)) dX6_feed_125 (fun H locs hP hD hS => ?_)
                have hP : va_P G.1 vwCl [(h0, .inr (6, [.int 0, .ref kd, .ref mo, .ref st, .int 0, .ref ro, .ref tp, .int 4, .ref cd, .ref sr, .int 1, .int 0, .int 0, .ref ir, .ref ih, .ref ss, .ref sq, .ref ce, .ref lw, .int 40, .int 40, .int 0, .int 0, .ref wo, .ref he, .int 0, .int 0, .int 5, .ref sk, .ref na, .ref kp, .int 0, .int 0, .int 0, .int 0, .ref gb, .ref go, .ref fa, .ref ga, .int 0, .int 0, .ref vo])), (tp, .inl (G.2.1, 160, .inl (upd (upd (upd (upd (upd (gPf tB 40) 0 v1) 1 v2) 2 v3) 3 v4) 4 v5)))] H := hP
                have hD : va_D A [(h0, .inr (6, [.int 0, .ref kd, .ref mo, .ref st, .int 0, .ref ro, .ref tp, .int 4, .ref cd, .ref sr, .int 1, .int 0, .int 0, .ref ir, .ref ih, .ref ss, .ref sq, .ref ce, .ref lw, .int 40, .int 40, .int 0, .int 0, .ref wo, .ref he, .int 0, .int 0, .int 5, .ref sk, .ref na, .ref kp, .int 0, .int 0, .int 0, .int 0, .ref gb, .ref go, .ref fa, .ref ga, .int 0, .int 0, .ref vo])), (tp, .inl (G.2.1, 160, .inl (upd (upd (upd (upd (upd (gPf tB 40) 0 v1) 1 v2) 2 v3) 3 v4) 4 v5)))] := hD
                refine lv_aload_n hx hb dX6_feed_126 rfl (lv_at hl 1 rfl) ?_
                refine lv_dup hx hb dX6_feed_127 rfl ?_
                refine va_get (D := G.1) (ci := 6) (v := .int 4) (C := RX6) (T := TX6) (N := 42) hx hb hts hiX6 hown hK hP 0 rfl rfl 7 (by decide) kf80 (fun _ h9 => h9) rfl dX6_feed_128 ?_
                refine lv_iconst (v := 1) hx hb dX6_feed_131 (by decide) ?_
                refine lv_iadd hx hb dX6_feed_132 ?_
                refine lv_topi (fun v_103 ev_103 => ?_)
                have ev_103 : v_103 = 5 := ev_103.trans (by decide)
                subst ev_103
                refine va_put (D := G.1) (ci := 6) (v := .int 5) (ty := .int) (C := RX6) (T := TX6) (N := 42) hx hb hts hiX6 tyX6 tyX6_ok nmX6 hown hK hP hD hS 0 rfl rfl 7 (by decide) kf80 (fun _ h9 => h9) rfl (by decide +kernel) rfl rfl (Nat.le_of_ble_eq_true rfl) dX6_feed_133 (fun H locs hP hD hS => ?_)
                have hP : va_P G.1 vwCl [(h0, .inr (6, [.int 0, .ref kd, .ref mo, .ref st, .int 0, .ref ro, .ref tp, .int 5, .ref cd, .ref sr, .int 1, .int 0, .int 0, .ref ir, .ref ih, .ref ss, .ref sq, .ref ce, .ref lw, .int 40, .int 40, .int 0, .int 0, .ref wo, .ref he, .int 0, .int 0, .int 5, .ref sk, .ref na, .ref kp, .int 0, .int 0, .int 0, .int 0, .ref gb, .ref go, .ref fa, .ref ga, .int 0, .int 0, .ref vo])), (tp, .inl (G.2.1, 160, .inl (upd (upd (upd (upd (upd (gPf tB 40) 0 v1) 1 v2) 2 v3) 3 v4) 4 v5)))] H := hP
                have hD : va_D A [(h0, .inr (6, [.int 0, .ref kd, .ref mo, .ref st, .int 0, .ref ro, .ref tp, .int 5, .ref cd, .ref sr, .int 1, .int 0, .int 0, .ref ir, .ref ih, .ref ss, .ref sq, .ref ce, .ref lw, .int 40, .int 40, .int 0, .int 0, .ref wo, .ref he, .int 0, .int 0, .int 5, .ref sk, .ref na, .ref kp, .int 0, .int 0, .int 0, .int 0, .ref gb, .ref go, .ref fa, .ref ga, .int 0, .int 0, .ref vo])), (tp, .inl (G.2.1, 160, .inl (upd (upd (upd (upd (upd (gPf tB 40) 0 v1) 1 v2) 2 v3) 3 v4) 4 v5)))] := hD
                refine lv_iinc (v := 5) (lv' := [(7, .int 5), (0, .ref h0), (1, .int v0), (2, .int v1), (3, .int v2), (4, .int v3), (5, .int v4), (6, .int v5)]) hx hb dX6_feed_136 hl (k := 0) rfl (by decide) (by decide) rfl (fun ls hl => ?_)
                refine lv_goto (tgt := 68) hx hb dX6_feed_139 (by decide) ?_
                refine lv_iload hx hb dX6_feed_68 (lv_at hl 0 rfl) ?_
                refine lv_iload_n hx hb dX6_feed_70 rfl (lv_at hl 2 rfl) ?_
                refine lv_icmp_ge (tgt := 142) hx hb dX6_feed_71 (by decide) (fun c_104 => ?_) (fun c_104 => ?_)
                rotate_left
                · exact absurd (by rw [hk]; decide) c_104
                refine lv_aload_n hx hb dX6_feed_142 rfl (lv_at hl 1 rfl) ?_
                refine va_get (D := G.1) (ci := 6) (v := .int 5) (C := RX6) (T := TX6) (N := 42) hx hb hts hiX6 hown hK hP 0 rfl rfl 7 (by decide) kf80 (fun _ h9 => h9) rfl dX6_feed_143 ?_
                have hpost : (fun (r : Int32) (u : Unit) => match u with | _ => r = (if (1 ≤ v0 ∧ v0 ≤ 5) ∧ (0 ≤ v1 ∧ v1 ≤ 255) ∧ (0 ≤ v2 ∧ v2 ≤ 255) ∧ (0 ≤ v3 ∧ v3 ≤ 255) ∧ (0 ≤ v4 ∧ v4 ≤ 255) ∧ (0 ≤ v5 ∧ v5 ≤ 255) then v0 else -2)) 5 () := pp_X6_feed_0_10 v0 v1 v2 v3 v4 v5 p_4 p_9 p_14 p_19 p_24 p_29 hk
                exact W.iret (v := 5) hx hb hr (fun t ht hW => ⟨⟨5, (), rfl, hpost, trivial⟩, hS.F ht⟩) hS.2.2 dX6_feed_146
            · skip
              have n_30 : ¬ (0 ≤ v5 ∧ v5 ≤ 255) := of_decide_eq_false (bz_eq w_27 c_28)
              refine lv_bipush (v := -2) hx hb dX6_feed_47 (by decide) ?_
              have hpost : (fun (r : Int32) (u : Unit) => match u with | _ => r = (if (1 ≤ v0 ∧ v0 ≤ 5) ∧ (0 ≤ v1 ∧ v1 ≤ 255) ∧ (0 ≤ v2 ∧ v2 ≤ 255) ∧ (0 ≤ v3 ∧ v3 ≤ 255) ∧ (0 ≤ v4 ∧ v4 ≤ 255) ∧ (0 ≤ v5 ∧ v5 ≤ 255) then v0 else -2)) (-2) () := pp_X6_feed_0_11 v0 v1 v2 v3 v4 v5 p_4 p_9 p_14 p_19 p_24 n_30
              exact W.iret (v := (-2)) hx hb hr (fun t ht hW => ⟨⟨(-2), (), rfl, hpost, trivial⟩, hS.F ht⟩) hS.2.2 dX6_feed_49
theorem pp_X6_shoe_0_1 (v0 : Int32) (v1 : Int32) (v2 : Int32) : ((-5) : Int32) = -5 := by
  first
    | rfl
    | exact bz_pos (by (first | omega | (simp only [Int32.lt_iff_toInt_lt, Int32.le_iff_toInt_le, ← Int32.toInt_inj, Int32.reduceToInt] at * <;> omega)))
    | exact bz_neg (by (first | omega | (simp only [Int32.lt_iff_toInt_lt, Int32.le_iff_toInt_le, ← Int32.toInt_inj, Int32.reduceToInt] at * <;> omega)))
    | ((repeat' split) <;> first | rfl | assumption | (symm; assumption) | (exfalso; (first | omega | (simp only [Int32.lt_iff_toInt_lt, Int32.le_iff_toInt_le, ← Int32.toInt_inj, Int32.reduceToInt] at * <;> omega))))
abbrev q_X6_shoe_0 (G : gG) (h0 kd mo st ro tp cd sr ir ih ss sq ce lw wo he sk na kp gb go fa ga vo : Nat) (v0 : Int32) (v1 : Int32) (v2 : Int32) (A : Nat → Prop) : Array Value → State → Outcome → State → Prop := va_Qi (fun (r : Int32) (u : Unit) => match u with | _ => r = -5) (fun (u : Unit) t => match u with | _ => True) A
set_option maxHeartbeats 4000000 in
set_option maxRecDepth 100000 in
theorem c_X6_shoe_0 (l : Launch) (G : gG) (h0 kd mo st ro tp cd sr ir ih ss sq ce lw wo he sk na kp gb go fa ga vo : Nat) (v0 : Int32) (v1 : Int32) (v2 : Int32) (sz : Nat) : Met l yX6_shoe wsX6_shoe ({ frames := 2, cells := 0, slots := 0, locals := 43 }) (gPre G [.ref h0, .int v0, .int v1, .int v2] [(h0, .inr (6, [.int 0, .ref kd, .ref mo, .ref st, .int 0, .ref ro, .ref tp, .int 0, .ref cd, .ref sr, .int 1, .int 0, .int 0, .ref ir, .ref ih, .ref ss, .ref sq, .ref ce, .ref lw, .int 40, .int 40, .int 0, .int 0, .ref wo, .ref he, .int 0, .int 0, .int 5, .ref sk, .ref na, .ref kp, .int 0, .int 0, .int 0, .int 0, .ref gb, .ref go, .ref fa, .ref ga, .int 0, .int 0, .ref vo]))] sz) (q_X6_shoe_0 G h0 kd mo st ro tp cd sr ir ih ss sq ce lw wo he sk na kp gb go fa ga vo v0 v1 v2 (va_A [(h0, .inr (6, [.int 0, .ref kd, .ref mo, .ref st, .int 0, .ref ro, .ref tp, .int 0, .ref cd, .ref sr, .int 1, .int 0, .int 0, .ref ir, .ref ih, .ref ss, .ref sq, .ref ce, .ref lw, .int 40, .int 40, .int 0, .int 0, .ref wo, .ref he, .int 0, .int 0, .int 5, .ref sk, .ref na, .ref kp, .int 0, .int 0, .int 0, .int 0, .ref gb, .ref go, .ref fa, .ref ga, .int 0, .int 0, .ref vo]))] sz)) 0 0 (va_A [(h0, .inr (6, [.int 0, .ref kd, .ref mo, .ref st, .int 0, .ref ro, .ref tp, .int 0, .ref cd, .ref sr, .int 1, .int 0, .int 0, .ref ir, .ref ih, .ref ss, .ref sq, .ref ce, .ref lw, .int 40, .int 40, .int 0, .int 0, .ref wo, .ref he, .int 0, .int 0, .int 5, .ref sk, .ref na, .ref kp, .int 0, .int 0, .int 0, .int 0, .ref gb, .ref go, .ref fa, .ref ga, .int 0, .int 0, .ref vo]))] sz) := by
  refine Met.ofW (cc := cX6_shoe) (maxL := 5) (ret := (some .int)) (by decide) rfl ?_
  intro p e s m args below meth c s₁ B hml hv
  obtain ⟨rfl, hsz, hP, hK, hD0⟩ := hv
  have hx := B.exec
  have hb := B.bytes
  have hr := B.returns
  have hts := atoms_spec (ws := wsX6_shoe) B.pre
  have hown : s.vm.findClass RX6 = some m.cls := findClass_of_methodNamed B.named
  have hlocks := B.notSynchronized
  subst hsz
  have hD := hD0.self (sz := s.heap.size)
  generalize hAe : va_A [(h0, .inr (6, [.int 0, .ref kd, .ref mo, .ref st, .int 0, .ref ro, .ref tp, .int 0, .ref cd, .ref sr, .int 1, .int 0, .int 0, .ref ir, .ref ih, .ref ss, .ref sq, .ref ce, .ref lw, .int 40, .int 40, .int 0, .int 0, .ref wo, .ref he, .int 0, .int 0, .int 5, .ref sk, .ref na, .ref kp, .int 0, .int 0, .int 0, .int 0, .ref gb, .ref go, .ref fa, .ref ga, .int 0, .int 0, .ref vo]))] s.heap.size = A at hD ⊢
  have hA : ∀ q : Nat, s.heap.size ≤ q → A q := fun q h => by rw [← hAe]; exact Or.inr h
  have hS : va_S A s.heap s.heap [] := va_S.rf
  have hP : va_P G.1 vwCl [(h0, .inr (6, [.int 0, .ref kd, .ref mo, .ref st, .int 0, .ref ro, .ref tp, .int 0, .ref cd, .ref sr, .int 1, .int 0, .int 0, .ref ir, .ref ih, .ref ss, .ref sq, .ref ce, .ref lw, .int 40, .int 40, .int 0, .int 0, .ref wo, .ref he, .int 0, .int 0, .int 5, .ref sk, .ref na, .ref kp, .int 0, .int 0, .int 0, .int 0, .ref gb, .ref go, .ref fa, .ref ga, .int 0, .int 0, .ref vo]))] s.heap := hP
  have hD : va_D A [(h0, .inr (6, [.int 0, .ref kd, .ref mo, .ref st, .int 0, .ref ro, .ref tp, .int 0, .ref cd, .ref sr, .int 1, .int 0, .int 0, .ref ir, .ref ih, .ref ss, .ref sq, .ref ce, .ref lw, .int 40, .int 40, .int 0, .int 0, .ref wo, .ref he, .int 0, .int 0, .int 5, .ref sk, .ref na, .ref kp, .int 0, .int 0, .int 0, .int 0, .ref gb, .ref go, .ref fa, .ref ga, .int 0, .int 0, .ref vo]))] := hD
  have hl := lv_entry ([.ref h0, .int v0, .int v1, .int v2]) (n := 5) (Nat.le_of_ble_eq_true rfl)
  rw [lg_entry_eq]
  generalize (lg_sl ([.ref h0, .int v0, .int v1, .int v2]) ++ List.replicate (5 - (lg_sl ([.ref h0, .int v0, .int v1, .int v2])).length) Slot.unset).toArray = ls at hl ⊢
  have hl : lv_has ls 5 [(0, .ref h0), (1, .int v0), (2, .int v1), (3, .int v2)] := hl
  refine lv_aload_n hx hb dX6_shoe_0 rfl (lv_at hl 0 rfl) ?_
  refine lv_iload_n hx hb dX6_shoe_1 rfl (lv_at hl 1 rfl) ?_
  have hPc : va_P G.1 vwCl [(h0, .inr (6, [.int 0, .ref kd, .ref mo, .ref st, .int 0, .ref ro, .ref tp, .int 0, .ref cd, .ref sr, .int 1, .int 0, .int 0, .ref ir, .ref ih, .ref ss, .ref sq, .ref ce, .ref lw, .int 40, .int 40, .int 0, .int 0, .ref wo, .ref he, .int 0, .int 0, .int 5, .ref sk, .ref na, .ref kp, .int 0, .int 0, .int 0, .int 0, .ref gb, .ref go, .ref fa, .ref ga, .int 0, .int 0, .ref vo]))] s.heap := hP.sub [0] rfl
  have hDc : va_D A [(h0, .inr (6, [.int 0, .ref kd, .ref mo, .ref st, .int 0, .ref ro, .ref tp, .int 0, .ref cd, .ref sr, .int 1, .int 0, .int 0, .ref ir, .ref ih, .ref ss, .ref sq, .ref ce, .ref lw, .int 40, .int 40, .int 0, .int 0, .ref wo, .ref he, .int 0, .int 0, .int 5, .ref sk, .ref na, .ref kp, .int 0, .int 0, .int 0, .int 0, .ref gb, .ref go, .ref fa, .ref ga, .int 0, .int 0, .ref vo]))] := hD.sub [0] (by decide) rfl
  have hFc := va_free (wc := [(h0, .inr (6, [.int 0, .ref kd, .ref mo, .ref st, .int 0, .ref ro, .ref tp, .int 0, .ref cd, .ref sr, .int 1, .int 0, .int 0, .ref ir, .ref ih, .ref ss, .ref sq, .ref ce, .ref lw, .int 40, .int 40, .int 0, .int 0, .ref wo, .ref he, .int 0, .int 0, .int 5, .ref sk, .ref na, .ref kp, .int 0, .int 0, .int 0, .int 0, .ref gb, .ref go, .ref fa, .ref ga, .int 0, .int 0, .ref vo]))]) hD hS hA [0] rfl
  refine va_calli (va_runV (As := [.int v0]) (rest := []) ⟨hx, hb, hml, hown, hts⟩ (c_X6_isJudge_0 l G h0 kd mo st ro tp cd sr ir ih ss sq ce lw wo he sk na kp gb go fa ga vo v0 s.heap.size) (cwV 1 hts gX6_shoe_X6_isJudge rfl rfl rfl (by decide +kernel) ⟨Nat.le_of_ble_eq_true rfl, Nat.le_of_ble_eq_true rfl⟩) ⟨gPre_blind, va_recv hK hPc (ci := 6) (q0 := 0) rfl rfl, fun U hU hW => gPre_of hU hW hK hPc hDc⟩ rfl rfl hl.1 rfl (lv_room (Nat.le_of_ble_eq_true rfl)) dX6_shoe_2 ⟨Nat.le_of_ble_eq_true rfl, Nat.le_of_ble_eq_true rfl⟩) hS (fun q _ h => hFc q h) hFc (fun r_1 u t H locs ht hvm w_2 hB hz1 hk1 hS => ?_)
  obtain ⟨hP1, hK1, hD1⟩ := hB
  rw [ht] at hP1
  have hP1 : va_P G.1 vwCl [(h0, .inr (6, [.int 0, .ref kd, .ref mo, .ref st, .int 0, .ref ro, .ref tp, .int 0, .ref cd, .ref sr, .int 1, .int 0, .int 0, .ref ir, .ref ih, .ref ss, .ref sq, .ref ce, .ref lw, .int 40, .int 40, .int 0, .int 0, .ref wo, .ref he, .int 0, .int 0, .int 5, .ref sk, .ref na, .ref kp, .int 0, .int 0, .int 0, .int 0, .ref gb, .ref go, .ref fa, .ref ga, .int 0, .int 0, .ref vo]))] H := hP1
  have hD1 : va_D (va_A [(h0, .inr (6, [.int 0, .ref kd, .ref mo, .ref st, .int 0, .ref ro, .ref tp, .int 0, .ref cd, .ref sr, .int 1, .int 0, .int 0, .ref ir, .ref ih, .ref ss, .ref sq, .ref ce, .ref lw, .int 40, .int 40, .int 0, .int 0, .ref wo, .ref he, .int 0, .int 0, .int 5, .ref sk, .ref na, .ref kp, .int 0, .int 0, .int 0, .int 0, .ref gb, .ref go, .ref fa, .ref ga, .int 0, .int 0, .ref vo]))] s.heap.size) [(h0, .inr (6, [.int 0, .ref kd, .ref mo, .ref st, .int 0, .ref ro, .ref tp, .int 0, .ref cd, .ref sr, .int 1, .int 0, .int 0, .ref ir, .ref ih, .ref ss, .ref sq, .ref ce, .ref lw, .int 40, .int 40, .int 0, .int 0, .ref wo, .ref he, .int 0, .int 0, .int 5, .ref sk, .ref na, .ref kp, .int 0, .int 0, .int 0, .int 0, .ref gb, .ref go, .ref fa, .ref ga, .int 0, .int 0, .ref vo]))] := hD1
  have w_2 : r_1 = 0 := w_2
  obtain ⟨hP, hD⟩ := va_join (wr := []) (w1 := [(h0, .inr (6, [.int 0, .ref kd, .ref mo, .ref st, .int 0, .ref ro, .ref tp, .int 0, .ref cd, .ref sr, .int 1, .int 0, .int 0, .ref ir, .ref ih, .ref ss, .ref sq, .ref ce, .ref lw, .int 40, .int 40, .int 0, .int 0, .ref wo, .ref he, .int 0, .int 0, .int 5, .ref sk, .ref na, .ref kp, .int 0, .int 0, .int 0, .int 0, .ref gb, .ref go, .ref fa, .ref ga, .int 0, .int 0, .ref vo]))]) hP hD [0] [] rfl rfl (by decide) (by decide) hk1 hFc hP1 hD1
  have hP : va_P G.1 vwCl [(h0, .inr (6, [.int 0, .ref kd, .ref mo, .ref st, .int 0, .ref ro, .ref tp, .int 0, .ref cd, .ref sr, .int 1, .int 0, .int 0, .ref ir, .ref ih, .ref ss, .ref sq, .ref ce, .ref lw, .int 40, .int 40, .int 0, .int 0, .ref wo, .ref he, .int 0, .int 0, .int 5, .ref sk, .ref na, .ref kp, .int 0, .int 0, .int 0, .int 0, .ref gb, .ref go, .ref fa, .ref ga, .int 0, .int 0, .ref vo]))] H := hP
  have hD : va_D A [(h0, .inr (6, [.int 0, .ref kd, .ref mo, .ref st, .int 0, .ref ro, .ref tp, .int 0, .ref cd, .ref sr, .int 1, .int 0, .int 0, .ref ir, .ref ih, .ref ss, .ref sq, .ref ce, .ref lw, .int 40, .int 40, .int 0, .int 0, .ref wo, .ref he, .int 0, .int 0, .int 5, .ref sk, .ref na, .ref kp, .int 0, .int 0, .int 0, .int 0, .ref gb, .ref go, .ref fa, .ref ga, .int 0, .int 0, .ref vo]))] := hD
  have w_2 : r_1 = 0 := w_2
  subst w_2
  refine lv_if_ne (tgt := 11) hx hb dX6_shoe_5 (by decide) (fun c_3 => ?_) (fun c_3 => ?_)
  · exact absurd (by decide) c_3
  refine lv_bipush (v := -5) hx hb dX6_shoe_8 (by decide) ?_
  have hpost : (fun (r : Int32) (u : Unit) => match u with | _ => r = -5) (-5) () := pp_X6_shoe_0_1 v0 v1 v2 
  exact W.iret (v := (-5)) hx hb hr (fun t ht hW => ⟨⟨(-5), (), rfl, hpost, trivial⟩, hS.F ht⟩) hS.2.2 dX6_shoe_10
theorem pp_X6_bench_0_1 (v0 : Int32) (v1 : Int32) : ((-5) : Int32) = -5 := by
  first
    | rfl
    | exact bz_pos (by (first | omega | (simp only [Int32.lt_iff_toInt_lt, Int32.le_iff_toInt_le, ← Int32.toInt_inj, Int32.reduceToInt] at * <;> omega)))
    | exact bz_neg (by (first | omega | (simp only [Int32.lt_iff_toInt_lt, Int32.le_iff_toInt_le, ← Int32.toInt_inj, Int32.reduceToInt] at * <;> omega)))
    | ((repeat' split) <;> first | rfl | assumption | (symm; assumption) | (exfalso; (first | omega | (simp only [Int32.lt_iff_toInt_lt, Int32.le_iff_toInt_le, ← Int32.toInt_inj, Int32.reduceToInt] at * <;> omega))))
abbrev q_X6_bench_0 (G : gG) (h0 kd mo st ro tp cd sr ir ih ss sq ce lw wo he sk na kp gb go fa ga vo : Nat) (v0 : Int32) (v1 : Int32) (A : Nat → Prop) : Array Value → State → Outcome → State → Prop := va_Qi (fun (r : Int32) (u : Unit) => match u with | _ => r = -5) (fun (u : Unit) t => match u with | _ => True) A
set_option maxHeartbeats 4000000 in
set_option maxRecDepth 100000 in
theorem c_X6_bench_0 (l : Launch) (G : gG) (h0 kd mo st ro tp cd sr ir ih ss sq ce lw wo he sk na kp gb go fa ga vo : Nat) (v0 : Int32) (v1 : Int32) (sz : Nat) : Met l yX6_bench wsX6_bench ({ frames := 2, cells := 0, slots := 0, locals := 43 }) (gPre G [.ref h0, .int v0, .int v1] [(h0, .inr (6, [.int 0, .ref kd, .ref mo, .ref st, .int 0, .ref ro, .ref tp, .int 0, .ref cd, .ref sr, .int 1, .int 0, .int 0, .ref ir, .ref ih, .ref ss, .ref sq, .ref ce, .ref lw, .int 40, .int 40, .int 0, .int 0, .ref wo, .ref he, .int 0, .int 0, .int 5, .ref sk, .ref na, .ref kp, .int 0, .int 0, .int 0, .int 0, .ref gb, .ref go, .ref fa, .ref ga, .int 0, .int 0, .ref vo]))] sz) (q_X6_bench_0 G h0 kd mo st ro tp cd sr ir ih ss sq ce lw wo he sk na kp gb go fa ga vo v0 v1 (va_A [(h0, .inr (6, [.int 0, .ref kd, .ref mo, .ref st, .int 0, .ref ro, .ref tp, .int 0, .ref cd, .ref sr, .int 1, .int 0, .int 0, .ref ir, .ref ih, .ref ss, .ref sq, .ref ce, .ref lw, .int 40, .int 40, .int 0, .int 0, .ref wo, .ref he, .int 0, .int 0, .int 5, .ref sk, .ref na, .ref kp, .int 0, .int 0, .int 0, .int 0, .ref gb, .ref go, .ref fa, .ref ga, .int 0, .int 0, .ref vo]))] sz)) 0 0 (va_A [(h0, .inr (6, [.int 0, .ref kd, .ref mo, .ref st, .int 0, .ref ro, .ref tp, .int 0, .ref cd, .ref sr, .int 1, .int 0, .int 0, .ref ir, .ref ih, .ref ss, .ref sq, .ref ce, .ref lw, .int 40, .int 40, .int 0, .int 0, .ref wo, .ref he, .int 0, .int 0, .int 5, .ref sk, .ref na, .ref kp, .int 0, .int 0, .int 0, .int 0, .ref gb, .ref go, .ref fa, .ref ga, .int 0, .int 0, .ref vo]))] sz) := by
  refine Met.ofW (cc := cX6_bench) (maxL := 3) (ret := (some .int)) (by decide) rfl ?_
  intro p e s m args below meth c s₁ B hml hv
  obtain ⟨rfl, hsz, hP, hK, hD0⟩ := hv
  have hx := B.exec
  have hb := B.bytes
  have hr := B.returns
  have hts := atoms_spec (ws := wsX6_bench) B.pre
  have hown : s.vm.findClass RX6 = some m.cls := findClass_of_methodNamed B.named
  have hlocks := B.notSynchronized
  subst hsz
  have hD := hD0.self (sz := s.heap.size)
  generalize hAe : va_A [(h0, .inr (6, [.int 0, .ref kd, .ref mo, .ref st, .int 0, .ref ro, .ref tp, .int 0, .ref cd, .ref sr, .int 1, .int 0, .int 0, .ref ir, .ref ih, .ref ss, .ref sq, .ref ce, .ref lw, .int 40, .int 40, .int 0, .int 0, .ref wo, .ref he, .int 0, .int 0, .int 5, .ref sk, .ref na, .ref kp, .int 0, .int 0, .int 0, .int 0, .ref gb, .ref go, .ref fa, .ref ga, .int 0, .int 0, .ref vo]))] s.heap.size = A at hD ⊢
  have hA : ∀ q : Nat, s.heap.size ≤ q → A q := fun q h => by rw [← hAe]; exact Or.inr h
  have hS : va_S A s.heap s.heap [] := va_S.rf
  have hP : va_P G.1 vwCl [(h0, .inr (6, [.int 0, .ref kd, .ref mo, .ref st, .int 0, .ref ro, .ref tp, .int 0, .ref cd, .ref sr, .int 1, .int 0, .int 0, .ref ir, .ref ih, .ref ss, .ref sq, .ref ce, .ref lw, .int 40, .int 40, .int 0, .int 0, .ref wo, .ref he, .int 0, .int 0, .int 5, .ref sk, .ref na, .ref kp, .int 0, .int 0, .int 0, .int 0, .ref gb, .ref go, .ref fa, .ref ga, .int 0, .int 0, .ref vo]))] s.heap := hP
  have hD : va_D A [(h0, .inr (6, [.int 0, .ref kd, .ref mo, .ref st, .int 0, .ref ro, .ref tp, .int 0, .ref cd, .ref sr, .int 1, .int 0, .int 0, .ref ir, .ref ih, .ref ss, .ref sq, .ref ce, .ref lw, .int 40, .int 40, .int 0, .int 0, .ref wo, .ref he, .int 0, .int 0, .int 5, .ref sk, .ref na, .ref kp, .int 0, .int 0, .int 0, .int 0, .ref gb, .ref go, .ref fa, .ref ga, .int 0, .int 0, .ref vo]))] := hD
  have hl := lv_entry ([.ref h0, .int v0, .int v1]) (n := 3) (Nat.le_of_ble_eq_true rfl)
  rw [lg_entry_eq]
  generalize (lg_sl ([.ref h0, .int v0, .int v1]) ++ List.replicate (3 - (lg_sl ([.ref h0, .int v0, .int v1])).length) Slot.unset).toArray = ls at hl ⊢
  have hl : lv_has ls 3 [(0, .ref h0), (1, .int v0), (2, .int v1)] := hl
  refine lv_aload_n hx hb dX6_bench_0 rfl (lv_at hl 0 rfl) ?_
  refine lv_iload_n hx hb dX6_bench_1 rfl (lv_at hl 1 rfl) ?_
  have hPc : va_P G.1 vwCl [(h0, .inr (6, [.int 0, .ref kd, .ref mo, .ref st, .int 0, .ref ro, .ref tp, .int 0, .ref cd, .ref sr, .int 1, .int 0, .int 0, .ref ir, .ref ih, .ref ss, .ref sq, .ref ce, .ref lw, .int 40, .int 40, .int 0, .int 0, .ref wo, .ref he, .int 0, .int 0, .int 5, .ref sk, .ref na, .ref kp, .int 0, .int 0, .int 0, .int 0, .ref gb, .ref go, .ref fa, .ref ga, .int 0, .int 0, .ref vo]))] s.heap := hP.sub [0] rfl
  have hDc : va_D A [(h0, .inr (6, [.int 0, .ref kd, .ref mo, .ref st, .int 0, .ref ro, .ref tp, .int 0, .ref cd, .ref sr, .int 1, .int 0, .int 0, .ref ir, .ref ih, .ref ss, .ref sq, .ref ce, .ref lw, .int 40, .int 40, .int 0, .int 0, .ref wo, .ref he, .int 0, .int 0, .int 5, .ref sk, .ref na, .ref kp, .int 0, .int 0, .int 0, .int 0, .ref gb, .ref go, .ref fa, .ref ga, .int 0, .int 0, .ref vo]))] := hD.sub [0] (by decide) rfl
  have hFc := va_free (wc := [(h0, .inr (6, [.int 0, .ref kd, .ref mo, .ref st, .int 0, .ref ro, .ref tp, .int 0, .ref cd, .ref sr, .int 1, .int 0, .int 0, .ref ir, .ref ih, .ref ss, .ref sq, .ref ce, .ref lw, .int 40, .int 40, .int 0, .int 0, .ref wo, .ref he, .int 0, .int 0, .int 5, .ref sk, .ref na, .ref kp, .int 0, .int 0, .int 0, .int 0, .ref gb, .ref go, .ref fa, .ref ga, .int 0, .int 0, .ref vo]))]) hD hS hA [0] rfl
  refine va_calli (va_runV (As := [.int v0]) (rest := []) ⟨hx, hb, hml, hown, hts⟩ (c_X6_isJudge_0 l G h0 kd mo st ro tp cd sr ir ih ss sq ce lw wo he sk na kp gb go fa ga vo v0 s.heap.size) (cwV 1 hts gX6_bench_X6_isJudge rfl rfl rfl (by decide +kernel) ⟨Nat.le_of_ble_eq_true rfl, Nat.le_of_ble_eq_true rfl⟩) ⟨gPre_blind, va_recv hK hPc (ci := 6) (q0 := 0) rfl rfl, fun U hU hW => gPre_of hU hW hK hPc hDc⟩ rfl rfl hl.1 rfl (lv_room (Nat.le_of_ble_eq_true rfl)) dX6_bench_2 ⟨Nat.le_of_ble_eq_true rfl, Nat.le_of_ble_eq_true rfl⟩) hS (fun q _ h => hFc q h) hFc (fun r_1 u t H locs ht hvm w_2 hB hz1 hk1 hS => ?_)
  obtain ⟨hP1, hK1, hD1⟩ := hB
  rw [ht] at hP1
  have hP1 : va_P G.1 vwCl [(h0, .inr (6, [.int 0, .ref kd, .ref mo, .ref st, .int 0, .ref ro, .ref tp, .int 0, .ref cd, .ref sr, .int 1, .int 0, .int 0, .ref ir, .ref ih, .ref ss, .ref sq, .ref ce, .ref lw, .int 40, .int 40, .int 0, .int 0, .ref wo, .ref he, .int 0, .int 0, .int 5, .ref sk, .ref na, .ref kp, .int 0, .int 0, .int 0, .int 0, .ref gb, .ref go, .ref fa, .ref ga, .int 0, .int 0, .ref vo]))] H := hP1
  have hD1 : va_D (va_A [(h0, .inr (6, [.int 0, .ref kd, .ref mo, .ref st, .int 0, .ref ro, .ref tp, .int 0, .ref cd, .ref sr, .int 1, .int 0, .int 0, .ref ir, .ref ih, .ref ss, .ref sq, .ref ce, .ref lw, .int 40, .int 40, .int 0, .int 0, .ref wo, .ref he, .int 0, .int 0, .int 5, .ref sk, .ref na, .ref kp, .int 0, .int 0, .int 0, .int 0, .ref gb, .ref go, .ref fa, .ref ga, .int 0, .int 0, .ref vo]))] s.heap.size) [(h0, .inr (6, [.int 0, .ref kd, .ref mo, .ref st, .int 0, .ref ro, .ref tp, .int 0, .ref cd, .ref sr, .int 1, .int 0, .int 0, .ref ir, .ref ih, .ref ss, .ref sq, .ref ce, .ref lw, .int 40, .int 40, .int 0, .int 0, .ref wo, .ref he, .int 0, .int 0, .int 5, .ref sk, .ref na, .ref kp, .int 0, .int 0, .int 0, .int 0, .ref gb, .ref go, .ref fa, .ref ga, .int 0, .int 0, .ref vo]))] := hD1
  have w_2 : r_1 = 0 := w_2
  obtain ⟨hP, hD⟩ := va_join (wr := []) (w1 := [(h0, .inr (6, [.int 0, .ref kd, .ref mo, .ref st, .int 0, .ref ro, .ref tp, .int 0, .ref cd, .ref sr, .int 1, .int 0, .int 0, .ref ir, .ref ih, .ref ss, .ref sq, .ref ce, .ref lw, .int 40, .int 40, .int 0, .int 0, .ref wo, .ref he, .int 0, .int 0, .int 5, .ref sk, .ref na, .ref kp, .int 0, .int 0, .int 0, .int 0, .ref gb, .ref go, .ref fa, .ref ga, .int 0, .int 0, .ref vo]))]) hP hD [0] [] rfl rfl (by decide) (by decide) hk1 hFc hP1 hD1
  have hP : va_P G.1 vwCl [(h0, .inr (6, [.int 0, .ref kd, .ref mo, .ref st, .int 0, .ref ro, .ref tp, .int 0, .ref cd, .ref sr, .int 1, .int 0, .int 0, .ref ir, .ref ih, .ref ss, .ref sq, .ref ce, .ref lw, .int 40, .int 40, .int 0, .int 0, .ref wo, .ref he, .int 0, .int 0, .int 5, .ref sk, .ref na, .ref kp, .int 0, .int 0, .int 0, .int 0, .ref gb, .ref go, .ref fa, .ref ga, .int 0, .int 0, .ref vo]))] H := hP
  have hD : va_D A [(h0, .inr (6, [.int 0, .ref kd, .ref mo, .ref st, .int 0, .ref ro, .ref tp, .int 0, .ref cd, .ref sr, .int 1, .int 0, .int 0, .ref ir, .ref ih, .ref ss, .ref sq, .ref ce, .ref lw, .int 40, .int 40, .int 0, .int 0, .ref wo, .ref he, .int 0, .int 0, .int 5, .ref sk, .ref na, .ref kp, .int 0, .int 0, .int 0, .int 0, .ref gb, .ref go, .ref fa, .ref ga, .int 0, .int 0, .ref vo]))] := hD
  have w_2 : r_1 = 0 := w_2
  subst w_2
  refine lv_if_ne (tgt := 11) hx hb dX6_bench_5 (by decide) (fun c_3 => ?_) (fun c_3 => ?_)
  · exact absurd (by decide) c_3
  refine lv_bipush (v := -5) hx hb dX6_bench_8 (by decide) ?_
  have hpost : (fun (r : Int32) (u : Unit) => match u with | _ => r = -5) (-5) () := pp_X6_bench_0_1 v0 v1 
  exact W.iret (v := (-5)) hx hb hr (fun t ht hW => ⟨⟨(-5), (), rfl, hpost, trivial⟩, hS.F ht⟩) hS.2.2 dX6_bench_10
theorem pp_X6_asks_0_1 (v0 : Int32) (v1 : Int32) (v2 : Int32) (n_5 : ¬ (0 ≤ v0 ∧ v0 ≤ 2)) : ((-2) : Int32) = -2 := by
  first
    | rfl
    | exact bz_pos (by (first | omega | (simp only [Int32.lt_iff_toInt_lt, Int32.le_iff_toInt_le, ← Int32.toInt_inj, Int32.reduceToInt] at * <;> omega)))
    | exact bz_neg (by (first | omega | (simp only [Int32.lt_iff_toInt_lt, Int32.le_iff_toInt_le, ← Int32.toInt_inj, Int32.reduceToInt] at * <;> omega)))
    | ((repeat' split) <;> first | rfl | assumption | (symm; assumption) | (exfalso; (first | omega | (simp only [Int32.lt_iff_toInt_lt, Int32.le_iff_toInt_le, ← Int32.toInt_inj, Int32.reduceToInt] at * <;> omega))))
theorem pp_X6_asks_0_2 (v0 : Int32) (v1 : Int32) (v2 : Int32) (p_4 : 0 ≤ v0 ∧ v0 ≤ 2) : ((-2) : Int32) = -2 := by
  first
    | rfl
    | exact bz_pos (by (first | omega | (simp only [Int32.lt_iff_toInt_lt, Int32.le_iff_toInt_le, ← Int32.toInt_inj, Int32.reduceToInt] at * <;> omega)))
    | exact bz_neg (by (first | omega | (simp only [Int32.lt_iff_toInt_lt, Int32.le_iff_toInt_le, ← Int32.toInt_inj, Int32.reduceToInt] at * <;> omega)))
    | ((repeat' split) <;> first | rfl | assumption | (symm; assumption) | (exfalso; (first | omega | (simp only [Int32.lt_iff_toInt_lt, Int32.le_iff_toInt_le, ← Int32.toInt_inj, Int32.reduceToInt] at * <;> omega))))
abbrev q_X6_asks_0 (G : gG) (h0 kd mo st ro tp cd sr ir ih ss sq ce lw wo he sk na kp gb go fa ga vo : Nat) (v0 : Int32) (v1 : Int32) (v2 : Int32) (A : Nat → Prop) : Array Value → State → Outcome → State → Prop := va_Qi (fun (r : Int32) (u : Unit) => match u with | _ => r = -2) (fun (u : Unit) t => match u with | _ => True) A
set_option maxHeartbeats 4000000 in
set_option maxRecDepth 100000 in
theorem c_X6_asks_0 (l : Launch) (G : gG) (h0 kd mo st ro tp cd sr ir ih ss sq ce lw wo he sk na kp gb go fa ga vo : Nat) (v0 : Int32) (v1 : Int32) (v2 : Int32) (sz : Nat) : Met l yX6_asks wsX6_asks ({ frames := 2, cells := 0, slots := 0, locals := 43 }) (gPre G [.ref h0, .int v0, .int v1, .int v2] [(h0, .inr (6, [.int 0, .ref kd, .ref mo, .ref st, .int 0, .ref ro, .ref tp, .int 0, .ref cd, .ref sr, .int 1, .int 0, .int 0, .ref ir, .ref ih, .ref ss, .ref sq, .ref ce, .ref lw, .int 40, .int 40, .int 0, .int 0, .ref wo, .ref he, .int 0, .int 0, .int 5, .ref sk, .ref na, .ref kp, .int 0, .int 0, .int 0, .int 0, .ref gb, .ref go, .ref fa, .ref ga, .int 0, .int 0, .ref vo]))] sz) (q_X6_asks_0 G h0 kd mo st ro tp cd sr ir ih ss sq ce lw wo he sk na kp gb go fa ga vo v0 v1 v2 (va_A [(h0, .inr (6, [.int 0, .ref kd, .ref mo, .ref st, .int 0, .ref ro, .ref tp, .int 0, .ref cd, .ref sr, .int 1, .int 0, .int 0, .ref ir, .ref ih, .ref ss, .ref sq, .ref ce, .ref lw, .int 40, .int 40, .int 0, .int 0, .ref wo, .ref he, .int 0, .int 0, .int 5, .ref sk, .ref na, .ref kp, .int 0, .int 0, .int 0, .int 0, .ref gb, .ref go, .ref fa, .ref ga, .int 0, .int 0, .ref vo]))] sz)) 0 0 (va_A [(h0, .inr (6, [.int 0, .ref kd, .ref mo, .ref st, .int 0, .ref ro, .ref tp, .int 0, .ref cd, .ref sr, .int 1, .int 0, .int 0, .ref ir, .ref ih, .ref ss, .ref sq, .ref ce, .ref lw, .int 40, .int 40, .int 0, .int 0, .ref wo, .ref he, .int 0, .int 0, .int 5, .ref sk, .ref na, .ref kp, .int 0, .int 0, .int 0, .int 0, .ref gb, .ref go, .ref fa, .ref ga, .int 0, .int 0, .ref vo]))] sz) := by
  refine Met.ofW (cc := cX6_asks) (maxL := 4) (ret := (some .int)) (by decide) rfl ?_
  intro p e s m args below meth c s₁ B hml hv
  obtain ⟨rfl, hsz, hP, hK, hD0⟩ := hv
  have hx := B.exec
  have hb := B.bytes
  have hr := B.returns
  have hts := atoms_spec (ws := wsX6_asks) B.pre
  have hown : s.vm.findClass RX6 = some m.cls := findClass_of_methodNamed B.named
  have hlocks := B.notSynchronized
  subst hsz
  have hD := hD0.self (sz := s.heap.size)
  generalize hAe : va_A [(h0, .inr (6, [.int 0, .ref kd, .ref mo, .ref st, .int 0, .ref ro, .ref tp, .int 0, .ref cd, .ref sr, .int 1, .int 0, .int 0, .ref ir, .ref ih, .ref ss, .ref sq, .ref ce, .ref lw, .int 40, .int 40, .int 0, .int 0, .ref wo, .ref he, .int 0, .int 0, .int 5, .ref sk, .ref na, .ref kp, .int 0, .int 0, .int 0, .int 0, .ref gb, .ref go, .ref fa, .ref ga, .int 0, .int 0, .ref vo]))] s.heap.size = A at hD ⊢
  have hA : ∀ q : Nat, s.heap.size ≤ q → A q := fun q h => by rw [← hAe]; exact Or.inr h
  have hS : va_S A s.heap s.heap [] := va_S.rf
  have hP : va_P G.1 vwCl [(h0, .inr (6, [.int 0, .ref kd, .ref mo, .ref st, .int 0, .ref ro, .ref tp, .int 0, .ref cd, .ref sr, .int 1, .int 0, .int 0, .ref ir, .ref ih, .ref ss, .ref sq, .ref ce, .ref lw, .int 40, .int 40, .int 0, .int 0, .ref wo, .ref he, .int 0, .int 0, .int 5, .ref sk, .ref na, .ref kp, .int 0, .int 0, .int 0, .int 0, .ref gb, .ref go, .ref fa, .ref ga, .int 0, .int 0, .ref vo]))] s.heap := hP
  have hD : va_D A [(h0, .inr (6, [.int 0, .ref kd, .ref mo, .ref st, .int 0, .ref ro, .ref tp, .int 0, .ref cd, .ref sr, .int 1, .int 0, .int 0, .ref ir, .ref ih, .ref ss, .ref sq, .ref ce, .ref lw, .int 40, .int 40, .int 0, .int 0, .ref wo, .ref he, .int 0, .int 0, .int 5, .ref sk, .ref na, .ref kp, .int 0, .int 0, .int 0, .int 0, .ref gb, .ref go, .ref fa, .ref ga, .int 0, .int 0, .ref vo]))] := hD
  have hl := lv_entry ([.ref h0, .int v0, .int v1, .int v2]) (n := 4) (Nat.le_of_ble_eq_true rfl)
  rw [lg_entry_eq]
  generalize (lg_sl ([.ref h0, .int v0, .int v1, .int v2]) ++ List.replicate (4 - (lg_sl ([.ref h0, .int v0, .int v1, .int v2])).length) Slot.unset).toArray = ls at hl ⊢
  have hl : lv_has ls 4 [(0, .ref h0), (1, .int v0), (2, .int v1), (3, .int v2)] := hl
  refine lv_iload_n hx hb dX6_asks_0 rfl (lv_at hl 1 rfl) ?_
  refine lv_iconst (v := 0) hx hb dX6_asks_1 (by decide) ?_
  refine lv_iconst (v := 2) hx hb dX6_asks_2 (by decide) ?_
  have hPc : va_P G.1 vwCl [] s.heap := hP.sub [] rfl
  have hDc : va_D A [] := hD.sub [] (by decide) rfl
  have hFc := va_free (wc := []) hD hS hA [] rfl
  refine va_calli (va_runS (As := [.int v0, .int 0, .int 2]) (rest := []) ⟨hx, hb, hml, hown, hts⟩ (c_X6_in l G v0 0 2 s.heap.size) (va_cwS 3 hts gX6_asks_X6_in rfl rfl rfl (by decide +kernel) ⟨Nat.le_of_ble_eq_true rfl, Nat.le_of_ble_eq_true rfl⟩) ⟨gPre_blind, fun U hU hW => gPre_of hU hW hK hPc hDc⟩ rfl rfl hl.1 rfl (lv_room (Nat.le_of_ble_eq_true rfl)) dX6_asks_3 ⟨Nat.le_of_ble_eq_true rfl, Nat.le_of_ble_eq_true rfl⟩) hS (fun q _ h => hFc q h) hFc (fun r_1 u t H locs ht hvm w_2 hB hz1 hk1 hS => ?_)
  obtain ⟨hP1, hK1, hD1⟩ := hB
  rw [ht] at hP1
  have hP1 : va_P G.1 vwCl [] H := hP1
  have hD1 : va_D (va_A [] s.heap.size) [] := hD1
  have w_2 : r_1 = bz (decide (0 ≤ v0 ∧ v0 ≤ 2)) := w_2
  obtain ⟨hP, hD⟩ := va_join (wr := [(h0, .inr (6, [.int 0, .ref kd, .ref mo, .ref st, .int 0, .ref ro, .ref tp, .int 0, .ref cd, .ref sr, .int 1, .int 0, .int 0, .ref ir, .ref ih, .ref ss, .ref sq, .ref ce, .ref lw, .int 40, .int 40, .int 0, .int 0, .ref wo, .ref he, .int 0, .int 0, .int 5, .ref sk, .ref na, .ref kp, .int 0, .int 0, .int 0, .int 0, .ref gb, .ref go, .ref fa, .ref ga, .int 0, .int 0, .ref vo]))]) (w1 := []) hP hD [] [0] rfl rfl (by decide) (by decide) hk1 hFc hP1 hD1
  have hP : va_P G.1 vwCl [(h0, .inr (6, [.int 0, .ref kd, .ref mo, .ref st, .int 0, .ref ro, .ref tp, .int 0, .ref cd, .ref sr, .int 1, .int 0, .int 0, .ref ir, .ref ih, .ref ss, .ref sq, .ref ce, .ref lw, .int 40, .int 40, .int 0, .int 0, .ref wo, .ref he, .int 0, .int 0, .int 5, .ref sk, .ref na, .ref kp, .int 0, .int 0, .int 0, .int 0, .ref gb, .ref go, .ref fa, .ref ga, .int 0, .int 0, .ref vo]))] H := hP
  have hD : va_D A [(h0, .inr (6, [.int 0, .ref kd, .ref mo, .ref st, .int 0, .ref ro, .ref tp, .int 0, .ref cd, .ref sr, .int 1, .int 0, .int 0, .ref ir, .ref ih, .ref ss, .ref sq, .ref ce, .ref lw, .int 40, .int 40, .int 0, .int 0, .ref wo, .ref he, .int 0, .int 0, .int 5, .ref sk, .ref na, .ref kp, .int 0, .int 0, .int 0, .int 0, .ref gb, .ref go, .ref fa, .ref ga, .int 0, .int 0, .ref vo]))] := hD
  refine lv_if_eq (tgt := 35) hx hb dX6_asks_6 (by decide) (fun c_3 => ?_) (fun c_3 => ?_)
  · skip
    have n_5 : ¬ (0 ≤ v0 ∧ v0 ≤ 2) := of_decide_eq_false (bz_eq w_2 c_3)
    refine lv_bipush (v := -2) hx hb dX6_asks_35 (by decide) ?_
    have hpost : (fun (r : Int32) (u : Unit) => match u with | _ => r = -2) (-2) () := pp_X6_asks_0_1 v0 v1 v2 n_5
    exact W.iret (v := (-2)) hx hb hr (fun t ht hW => ⟨⟨(-2), (), rfl, hpost, trivial⟩, hS.F ht⟩) hS.2.2 dX6_asks_37
  · skip
    have p_4 : 0 ≤ v0 ∧ v0 ≤ 2 := of_decide_eq_true (bz_ne w_2 c_3)
    refine lv_aload_n hx hb dX6_asks_9 rfl (lv_at hl 0 rfl) ?_
    refine lv_iload_n hx hb dX6_asks_10 rfl (lv_at hl 2 rfl) ?_
    have hPc : va_P G.1 vwCl [(h0, .inr (6, [.int 0, .ref kd, .ref mo, .ref st, .int 0, .ref ro, .ref tp, .int 0, .ref cd, .ref sr, .int 1, .int 0, .int 0, .ref ir, .ref ih, .ref ss, .ref sq, .ref ce, .ref lw, .int 40, .int 40, .int 0, .int 0, .ref wo, .ref he, .int 0, .int 0, .int 5, .ref sk, .ref na, .ref kp, .int 0, .int 0, .int 0, .int 0, .ref gb, .ref go, .ref fa, .ref ga, .int 0, .int 0, .ref vo]))] H := hP.sub [0] rfl
    have hDc : va_D A [(h0, .inr (6, [.int 0, .ref kd, .ref mo, .ref st, .int 0, .ref ro, .ref tp, .int 0, .ref cd, .ref sr, .int 1, .int 0, .int 0, .ref ir, .ref ih, .ref ss, .ref sq, .ref ce, .ref lw, .int 40, .int 40, .int 0, .int 0, .ref wo, .ref he, .int 0, .int 0, .int 5, .ref sk, .ref na, .ref kp, .int 0, .int 0, .int 0, .int 0, .ref gb, .ref go, .ref fa, .ref ga, .int 0, .int 0, .ref vo]))] := hD.sub [0] (by decide) rfl
    have hFc := va_free (wc := [(h0, .inr (6, [.int 0, .ref kd, .ref mo, .ref st, .int 0, .ref ro, .ref tp, .int 0, .ref cd, .ref sr, .int 1, .int 0, .int 0, .ref ir, .ref ih, .ref ss, .ref sq, .ref ce, .ref lw, .int 40, .int 40, .int 0, .int 0, .ref wo, .ref he, .int 0, .int 0, .int 5, .ref sk, .ref na, .ref kp, .int 0, .int 0, .int 0, .int 0, .ref gb, .ref go, .ref fa, .ref ga, .int 0, .int 0, .ref vo]))]) hD hS hA [0] rfl
    refine va_calli (va_runV (As := [.int v1]) (rest := []) ⟨hx, hb, hml, hown, hts⟩ (c_X6_isJudge_0 l G h0 kd mo st ro tp cd sr ir ih ss sq ce lw wo he sk na kp gb go fa ga vo v1 H.size) (cwV 1 hts gX6_asks_X6_isJudge rfl rfl rfl (by decide +kernel) ⟨Nat.le_of_ble_eq_true rfl, Nat.le_of_ble_eq_true rfl⟩) ⟨gPre_blind, va_recv hK hPc (ci := 6) (q0 := 0) rfl rfl, fun U hU hW => gPre_of hU hW hK hPc hDc⟩ rfl rfl hl.1 rfl (lv_room (Nat.le_of_ble_eq_true rfl)) dX6_asks_11 ⟨Nat.le_of_ble_eq_true rfl, Nat.le_of_ble_eq_true rfl⟩) hS (fun q _ h => hFc q h) hFc (fun r_6 u t H locs ht hvm w_7 hB hz1 hk1 hS => ?_)
    obtain ⟨hP1, hK1, hD1⟩ := hB
    rw [ht] at hP1
    have hP1 : va_P G.1 vwCl [(h0, .inr (6, [.int 0, .ref kd, .ref mo, .ref st, .int 0, .ref ro, .ref tp, .int 0, .ref cd, .ref sr, .int 1, .int 0, .int 0, .ref ir, .ref ih, .ref ss, .ref sq, .ref ce, .ref lw, .int 40, .int 40, .int 0, .int 0, .ref wo, .ref he, .int 0, .int 0, .int 5, .ref sk, .ref na, .ref kp, .int 0, .int 0, .int 0, .int 0, .ref gb, .ref go, .ref fa, .ref ga, .int 0, .int 0, .ref vo]))] H := hP1
    have hD1 : va_D (va_A [(h0, .inr (6, [.int 0, .ref kd, .ref mo, .ref st, .int 0, .ref ro, .ref tp, .int 0, .ref cd, .ref sr, .int 1, .int 0, .int 0, .ref ir, .ref ih, .ref ss, .ref sq, .ref ce, .ref lw, .int 40, .int 40, .int 0, .int 0, .ref wo, .ref he, .int 0, .int 0, .int 5, .ref sk, .ref na, .ref kp, .int 0, .int 0, .int 0, .int 0, .ref gb, .ref go, .ref fa, .ref ga, .int 0, .int 0, .ref vo]))] _) [(h0, .inr (6, [.int 0, .ref kd, .ref mo, .ref st, .int 0, .ref ro, .ref tp, .int 0, .ref cd, .ref sr, .int 1, .int 0, .int 0, .ref ir, .ref ih, .ref ss, .ref sq, .ref ce, .ref lw, .int 40, .int 40, .int 0, .int 0, .ref wo, .ref he, .int 0, .int 0, .int 5, .ref sk, .ref na, .ref kp, .int 0, .int 0, .int 0, .int 0, .ref gb, .ref go, .ref fa, .ref ga, .int 0, .int 0, .ref vo]))] := hD1
    have w_7 : r_6 = 0 := w_7
    obtain ⟨hP, hD⟩ := va_join (wr := []) (w1 := [(h0, .inr (6, [.int 0, .ref kd, .ref mo, .ref st, .int 0, .ref ro, .ref tp, .int 0, .ref cd, .ref sr, .int 1, .int 0, .int 0, .ref ir, .ref ih, .ref ss, .ref sq, .ref ce, .ref lw, .int 40, .int 40, .int 0, .int 0, .ref wo, .ref he, .int 0, .int 0, .int 5, .ref sk, .ref na, .ref kp, .int 0, .int 0, .int 0, .int 0, .ref gb, .ref go, .ref fa, .ref ga, .int 0, .int 0, .ref vo]))]) hP hD [0] [] rfl rfl (by decide) (by decide) hk1 hFc hP1 hD1
    have hP : va_P G.1 vwCl [(h0, .inr (6, [.int 0, .ref kd, .ref mo, .ref st, .int 0, .ref ro, .ref tp, .int 0, .ref cd, .ref sr, .int 1, .int 0, .int 0, .ref ir, .ref ih, .ref ss, .ref sq, .ref ce, .ref lw, .int 40, .int 40, .int 0, .int 0, .ref wo, .ref he, .int 0, .int 0, .int 5, .ref sk, .ref na, .ref kp, .int 0, .int 0, .int 0, .int 0, .ref gb, .ref go, .ref fa, .ref ga, .int 0, .int 0, .ref vo]))] H := hP
    have hD : va_D A [(h0, .inr (6, [.int 0, .ref kd, .ref mo, .ref st, .int 0, .ref ro, .ref tp, .int 0, .ref cd, .ref sr, .int 1, .int 0, .int 0, .ref ir, .ref ih, .ref ss, .ref sq, .ref ce, .ref lw, .int 40, .int 40, .int 0, .int 0, .ref wo, .ref he, .int 0, .int 0, .int 5, .ref sk, .ref na, .ref kp, .int 0, .int 0, .int 0, .int 0, .ref gb, .ref go, .ref fa, .ref ga, .int 0, .int 0, .ref vo]))] := hD
    have w_7 : r_6 = 0 := w_7
    subst w_7
    refine lv_if_eq (tgt := 35) hx hb dX6_asks_14 (by decide) (fun c_8 => ?_) (fun c_8 => ?_)
    rotate_left
    · exact absurd (by decide) c_8
    refine lv_bipush (v := -2) hx hb dX6_asks_35 (by decide) ?_
    have hpost : (fun (r : Int32) (u : Unit) => match u with | _ => r = -2) (-2) () := pp_X6_asks_0_2 v0 v1 v2 p_4
    exact W.iret (v := (-2)) hx hb hr (fun t ht hW => ⟨⟨(-2), (), rfl, hpost, trivial⟩, hS.F ht⟩) hS.2.2 dX6_asks_37
theorem pp_X6_put_0_1 (v0 : Int32) (v1 : Int32) (v2 : Int32) : ((-5) : Int32) = -5 := by
  first
    | rfl
    | exact bz_pos (by (first | omega | (simp only [Int32.lt_iff_toInt_lt, Int32.le_iff_toInt_le, ← Int32.toInt_inj, Int32.reduceToInt] at * <;> omega)))
    | exact bz_neg (by (first | omega | (simp only [Int32.lt_iff_toInt_lt, Int32.le_iff_toInt_le, ← Int32.toInt_inj, Int32.reduceToInt] at * <;> omega)))
    | ((repeat' split) <;> first | rfl | assumption | (symm; assumption) | (exfalso; (first | omega | (simp only [Int32.lt_iff_toInt_lt, Int32.le_iff_toInt_le, ← Int32.toInt_inj, Int32.reduceToInt] at * <;> omega))))
abbrev q_X6_put_0 (G : gG) (h0 kd mo st ro tp cd sr ir ih ss sq ce lw wo he sk na kp gb go fa ga vo : Nat) (v0 : Int32) (v1 : Int32) (v2 : Int32) (A : Nat → Prop) : Array Value → State → Outcome → State → Prop := va_Qi (fun (r : Int32) (u : Unit) => match u with | _ => r = -5) (fun (u : Unit) t => match u with | _ => True) A
set_option maxHeartbeats 4000000 in
set_option maxRecDepth 100000 in
theorem c_X6_put_0 (l : Launch) (G : gG) (h0 kd mo st ro tp cd sr ir ih ss sq ce lw wo he sk na kp gb go fa ga vo : Nat) (v0 : Int32) (v1 : Int32) (v2 : Int32) (sz : Nat) : Met l yX6_put wsX6_put ({ frames := 2, cells := 0, slots := 0, locals := 43 }) (gPre G [.ref h0, .int v0, .int v1, .int v2] [(h0, .inr (6, [.int 0, .ref kd, .ref mo, .ref st, .int 0, .ref ro, .ref tp, .int 0, .ref cd, .ref sr, .int 1, .int 0, .int 0, .ref ir, .ref ih, .ref ss, .ref sq, .ref ce, .ref lw, .int 40, .int 40, .int 0, .int 0, .ref wo, .ref he, .int 0, .int 0, .int 5, .ref sk, .ref na, .ref kp, .int 0, .int 0, .int 0, .int 0, .ref gb, .ref go, .ref fa, .ref ga, .int 0, .int 0, .ref vo]))] sz) (q_X6_put_0 G h0 kd mo st ro tp cd sr ir ih ss sq ce lw wo he sk na kp gb go fa ga vo v0 v1 v2 (va_A [(h0, .inr (6, [.int 0, .ref kd, .ref mo, .ref st, .int 0, .ref ro, .ref tp, .int 0, .ref cd, .ref sr, .int 1, .int 0, .int 0, .ref ir, .ref ih, .ref ss, .ref sq, .ref ce, .ref lw, .int 40, .int 40, .int 0, .int 0, .ref wo, .ref he, .int 0, .int 0, .int 5, .ref sk, .ref na, .ref kp, .int 0, .int 0, .int 0, .int 0, .ref gb, .ref go, .ref fa, .ref ga, .int 0, .int 0, .ref vo]))] sz)) 0 0 (va_A [(h0, .inr (6, [.int 0, .ref kd, .ref mo, .ref st, .int 0, .ref ro, .ref tp, .int 0, .ref cd, .ref sr, .int 1, .int 0, .int 0, .ref ir, .ref ih, .ref ss, .ref sq, .ref ce, .ref lw, .int 40, .int 40, .int 0, .int 0, .ref wo, .ref he, .int 0, .int 0, .int 5, .ref sk, .ref na, .ref kp, .int 0, .int 0, .int 0, .int 0, .ref gb, .ref go, .ref fa, .ref ga, .int 0, .int 0, .ref vo]))] sz) := by
  refine Met.ofW (cc := cX6_put) (maxL := 5) (ret := (some .int)) (by decide) rfl ?_
  intro p e s m args below meth c s₁ B hml hv
  obtain ⟨rfl, hsz, hP, hK, hD0⟩ := hv
  have hx := B.exec
  have hb := B.bytes
  have hr := B.returns
  have hts := atoms_spec (ws := wsX6_put) B.pre
  have hown : s.vm.findClass RX6 = some m.cls := findClass_of_methodNamed B.named
  have hlocks := B.notSynchronized
  subst hsz
  have hD := hD0.self (sz := s.heap.size)
  generalize hAe : va_A [(h0, .inr (6, [.int 0, .ref kd, .ref mo, .ref st, .int 0, .ref ro, .ref tp, .int 0, .ref cd, .ref sr, .int 1, .int 0, .int 0, .ref ir, .ref ih, .ref ss, .ref sq, .ref ce, .ref lw, .int 40, .int 40, .int 0, .int 0, .ref wo, .ref he, .int 0, .int 0, .int 5, .ref sk, .ref na, .ref kp, .int 0, .int 0, .int 0, .int 0, .ref gb, .ref go, .ref fa, .ref ga, .int 0, .int 0, .ref vo]))] s.heap.size = A at hD ⊢
  have hA : ∀ q : Nat, s.heap.size ≤ q → A q := fun q h => by rw [← hAe]; exact Or.inr h
  have hS : va_S A s.heap s.heap [] := va_S.rf
  have hP : va_P G.1 vwCl [(h0, .inr (6, [.int 0, .ref kd, .ref mo, .ref st, .int 0, .ref ro, .ref tp, .int 0, .ref cd, .ref sr, .int 1, .int 0, .int 0, .ref ir, .ref ih, .ref ss, .ref sq, .ref ce, .ref lw, .int 40, .int 40, .int 0, .int 0, .ref wo, .ref he, .int 0, .int 0, .int 5, .ref sk, .ref na, .ref kp, .int 0, .int 0, .int 0, .int 0, .ref gb, .ref go, .ref fa, .ref ga, .int 0, .int 0, .ref vo]))] s.heap := hP
  have hD : va_D A [(h0, .inr (6, [.int 0, .ref kd, .ref mo, .ref st, .int 0, .ref ro, .ref tp, .int 0, .ref cd, .ref sr, .int 1, .int 0, .int 0, .ref ir, .ref ih, .ref ss, .ref sq, .ref ce, .ref lw, .int 40, .int 40, .int 0, .int 0, .ref wo, .ref he, .int 0, .int 0, .int 5, .ref sk, .ref na, .ref kp, .int 0, .int 0, .int 0, .int 0, .ref gb, .ref go, .ref fa, .ref ga, .int 0, .int 0, .ref vo]))] := hD
  have hl := lv_entry ([.ref h0, .int v0, .int v1, .int v2]) (n := 5) (Nat.le_of_ble_eq_true rfl)
  rw [lg_entry_eq]
  generalize (lg_sl ([.ref h0, .int v0, .int v1, .int v2]) ++ List.replicate (5 - (lg_sl ([.ref h0, .int v0, .int v1, .int v2])).length) Slot.unset).toArray = ls at hl ⊢
  have hl : lv_has ls 5 [(0, .ref h0), (1, .int v0), (2, .int v1), (3, .int v2)] := hl
  refine lv_aload_n hx hb dX6_put_0 rfl (lv_at hl 0 rfl) ?_
  refine lv_iload_n hx hb dX6_put_1 rfl (lv_at hl 1 rfl) ?_
  have hPc : va_P G.1 vwCl [(h0, .inr (6, [.int 0, .ref kd, .ref mo, .ref st, .int 0, .ref ro, .ref tp, .int 0, .ref cd, .ref sr, .int 1, .int 0, .int 0, .ref ir, .ref ih, .ref ss, .ref sq, .ref ce, .ref lw, .int 40, .int 40, .int 0, .int 0, .ref wo, .ref he, .int 0, .int 0, .int 5, .ref sk, .ref na, .ref kp, .int 0, .int 0, .int 0, .int 0, .ref gb, .ref go, .ref fa, .ref ga, .int 0, .int 0, .ref vo]))] s.heap := hP.sub [0] rfl
  have hDc : va_D A [(h0, .inr (6, [.int 0, .ref kd, .ref mo, .ref st, .int 0, .ref ro, .ref tp, .int 0, .ref cd, .ref sr, .int 1, .int 0, .int 0, .ref ir, .ref ih, .ref ss, .ref sq, .ref ce, .ref lw, .int 40, .int 40, .int 0, .int 0, .ref wo, .ref he, .int 0, .int 0, .int 5, .ref sk, .ref na, .ref kp, .int 0, .int 0, .int 0, .int 0, .ref gb, .ref go, .ref fa, .ref ga, .int 0, .int 0, .ref vo]))] := hD.sub [0] (by decide) rfl
  have hFc := va_free (wc := [(h0, .inr (6, [.int 0, .ref kd, .ref mo, .ref st, .int 0, .ref ro, .ref tp, .int 0, .ref cd, .ref sr, .int 1, .int 0, .int 0, .ref ir, .ref ih, .ref ss, .ref sq, .ref ce, .ref lw, .int 40, .int 40, .int 0, .int 0, .ref wo, .ref he, .int 0, .int 0, .int 5, .ref sk, .ref na, .ref kp, .int 0, .int 0, .int 0, .int 0, .ref gb, .ref go, .ref fa, .ref ga, .int 0, .int 0, .ref vo]))]) hD hS hA [0] rfl
  refine va_calli (va_runV (As := [.int v0]) (rest := []) ⟨hx, hb, hml, hown, hts⟩ (c_X6_isPebble_0 l G h0 kd mo st ro tp cd sr ir ih ss sq ce lw wo he sk na kp gb go fa ga vo v0 s.heap.size) (cwV 1 hts gX6_put_X6_isPebble rfl rfl rfl (by decide +kernel) ⟨Nat.le_of_ble_eq_true rfl, Nat.le_of_ble_eq_true rfl⟩) ⟨gPre_blind, va_recv hK hPc (ci := 6) (q0 := 0) rfl rfl, fun U hU hW => gPre_of hU hW hK hPc hDc⟩ rfl rfl hl.1 rfl (lv_room (Nat.le_of_ble_eq_true rfl)) dX6_put_2 ⟨Nat.le_of_ble_eq_true rfl, Nat.le_of_ble_eq_true rfl⟩) hS (fun q _ h => hFc q h) hFc (fun r_1 u t H locs ht hvm w_2 hB hz1 hk1 hS => ?_)
  obtain ⟨hP1, hK1, hD1⟩ := hB
  rw [ht] at hP1
  have hP1 : va_P G.1 vwCl [(h0, .inr (6, [.int 0, .ref kd, .ref mo, .ref st, .int 0, .ref ro, .ref tp, .int 0, .ref cd, .ref sr, .int 1, .int 0, .int 0, .ref ir, .ref ih, .ref ss, .ref sq, .ref ce, .ref lw, .int 40, .int 40, .int 0, .int 0, .ref wo, .ref he, .int 0, .int 0, .int 5, .ref sk, .ref na, .ref kp, .int 0, .int 0, .int 0, .int 0, .ref gb, .ref go, .ref fa, .ref ga, .int 0, .int 0, .ref vo]))] H := hP1
  have hD1 : va_D (va_A [(h0, .inr (6, [.int 0, .ref kd, .ref mo, .ref st, .int 0, .ref ro, .ref tp, .int 0, .ref cd, .ref sr, .int 1, .int 0, .int 0, .ref ir, .ref ih, .ref ss, .ref sq, .ref ce, .ref lw, .int 40, .int 40, .int 0, .int 0, .ref wo, .ref he, .int 0, .int 0, .int 5, .ref sk, .ref na, .ref kp, .int 0, .int 0, .int 0, .int 0, .ref gb, .ref go, .ref fa, .ref ga, .int 0, .int 0, .ref vo]))] s.heap.size) [(h0, .inr (6, [.int 0, .ref kd, .ref mo, .ref st, .int 0, .ref ro, .ref tp, .int 0, .ref cd, .ref sr, .int 1, .int 0, .int 0, .ref ir, .ref ih, .ref ss, .ref sq, .ref ce, .ref lw, .int 40, .int 40, .int 0, .int 0, .ref wo, .ref he, .int 0, .int 0, .int 5, .ref sk, .ref na, .ref kp, .int 0, .int 0, .int 0, .int 0, .ref gb, .ref go, .ref fa, .ref ga, .int 0, .int 0, .ref vo]))] := hD1
  have w_2 : r_1 = 0 := w_2
  obtain ⟨hP, hD⟩ := va_join (wr := []) (w1 := [(h0, .inr (6, [.int 0, .ref kd, .ref mo, .ref st, .int 0, .ref ro, .ref tp, .int 0, .ref cd, .ref sr, .int 1, .int 0, .int 0, .ref ir, .ref ih, .ref ss, .ref sq, .ref ce, .ref lw, .int 40, .int 40, .int 0, .int 0, .ref wo, .ref he, .int 0, .int 0, .int 5, .ref sk, .ref na, .ref kp, .int 0, .int 0, .int 0, .int 0, .ref gb, .ref go, .ref fa, .ref ga, .int 0, .int 0, .ref vo]))]) hP hD [0] [] rfl rfl (by decide) (by decide) hk1 hFc hP1 hD1
  have hP : va_P G.1 vwCl [(h0, .inr (6, [.int 0, .ref kd, .ref mo, .ref st, .int 0, .ref ro, .ref tp, .int 0, .ref cd, .ref sr, .int 1, .int 0, .int 0, .ref ir, .ref ih, .ref ss, .ref sq, .ref ce, .ref lw, .int 40, .int 40, .int 0, .int 0, .ref wo, .ref he, .int 0, .int 0, .int 5, .ref sk, .ref na, .ref kp, .int 0, .int 0, .int 0, .int 0, .ref gb, .ref go, .ref fa, .ref ga, .int 0, .int 0, .ref vo]))] H := hP
  have hD : va_D A [(h0, .inr (6, [.int 0, .ref kd, .ref mo, .ref st, .int 0, .ref ro, .ref tp, .int 0, .ref cd, .ref sr, .int 1, .int 0, .int 0, .ref ir, .ref ih, .ref ss, .ref sq, .ref ce, .ref lw, .int 40, .int 40, .int 0, .int 0, .ref wo, .ref he, .int 0, .int 0, .int 5, .ref sk, .ref na, .ref kp, .int 0, .int 0, .int 0, .int 0, .ref gb, .ref go, .ref fa, .ref ga, .int 0, .int 0, .ref vo]))] := hD
  have w_2 : r_1 = 0 := w_2
  subst w_2
  refine lv_if_ne (tgt := 11) hx hb dX6_put_5 (by decide) (fun c_3 => ?_) (fun c_3 => ?_)
  · exact absurd (by decide) c_3
  refine lv_bipush (v := -5) hx hb dX6_put_8 (by decide) ?_
  have hpost : (fun (r : Int32) (u : Unit) => match u with | _ => r = -5) (-5) () := pp_X6_put_0_1 v0 v1 v2 
  exact W.iret (v := (-5)) hx hb hr (fun t ht hW => ⟨⟨(-5), (), rfl, hpost, trivial⟩, hS.F ht⟩) hS.2.2 dX6_put_10
theorem pp_X6_told_0_1 (v0 : Int32) (v1 : Int32) : ((-5) : Int32) = -5 := by
  first
    | rfl
    | exact bz_pos (by (first | omega | (simp only [Int32.lt_iff_toInt_lt, Int32.le_iff_toInt_le, ← Int32.toInt_inj, Int32.reduceToInt] at * <;> omega)))
    | exact bz_neg (by (first | omega | (simp only [Int32.lt_iff_toInt_lt, Int32.le_iff_toInt_le, ← Int32.toInt_inj, Int32.reduceToInt] at * <;> omega)))
    | ((repeat' split) <;> first | rfl | assumption | (symm; assumption) | (exfalso; (first | omega | (simp only [Int32.lt_iff_toInt_lt, Int32.le_iff_toInt_le, ← Int32.toInt_inj, Int32.reduceToInt] at * <;> omega))))
abbrev q_X6_told_0 (G : gG) (h0 kd mo st ro tp cd sr ir ih ss sq ce lw wo he sk na kp gb go fa ga vo : Nat) (v0 : Int32) (v1 : Int32) (A : Nat → Prop) : Array Value → State → Outcome → State → Prop := va_Qi (fun (r : Int32) (u : Unit) => match u with | _ => r = -5) (fun (u : Unit) t => match u with | _ => True) A
set_option maxHeartbeats 4000000 in
set_option maxRecDepth 100000 in
theorem c_X6_told_0 (l : Launch) (G : gG) (h0 kd mo st ro tp cd sr ir ih ss sq ce lw wo he sk na kp gb go fa ga vo : Nat) (v0 : Int32) (v1 : Int32) (sz : Nat) : Met l yX6_told wsX6_told ({ frames := 2, cells := 0, slots := 0, locals := 43 }) (gPre G [.ref h0, .int v0, .int v1] [(h0, .inr (6, [.int 0, .ref kd, .ref mo, .ref st, .int 0, .ref ro, .ref tp, .int 0, .ref cd, .ref sr, .int 1, .int 0, .int 0, .ref ir, .ref ih, .ref ss, .ref sq, .ref ce, .ref lw, .int 40, .int 40, .int 0, .int 0, .ref wo, .ref he, .int 0, .int 0, .int 5, .ref sk, .ref na, .ref kp, .int 0, .int 0, .int 0, .int 0, .ref gb, .ref go, .ref fa, .ref ga, .int 0, .int 0, .ref vo]))] sz) (q_X6_told_0 G h0 kd mo st ro tp cd sr ir ih ss sq ce lw wo he sk na kp gb go fa ga vo v0 v1 (va_A [(h0, .inr (6, [.int 0, .ref kd, .ref mo, .ref st, .int 0, .ref ro, .ref tp, .int 0, .ref cd, .ref sr, .int 1, .int 0, .int 0, .ref ir, .ref ih, .ref ss, .ref sq, .ref ce, .ref lw, .int 40, .int 40, .int 0, .int 0, .ref wo, .ref he, .int 0, .int 0, .int 5, .ref sk, .ref na, .ref kp, .int 0, .int 0, .int 0, .int 0, .ref gb, .ref go, .ref fa, .ref ga, .int 0, .int 0, .ref vo]))] sz)) 0 0 (va_A [(h0, .inr (6, [.int 0, .ref kd, .ref mo, .ref st, .int 0, .ref ro, .ref tp, .int 0, .ref cd, .ref sr, .int 1, .int 0, .int 0, .ref ir, .ref ih, .ref ss, .ref sq, .ref ce, .ref lw, .int 40, .int 40, .int 0, .int 0, .ref wo, .ref he, .int 0, .int 0, .int 5, .ref sk, .ref na, .ref kp, .int 0, .int 0, .int 0, .int 0, .ref gb, .ref go, .ref fa, .ref ga, .int 0, .int 0, .ref vo]))] sz) := by
  refine Met.ofW (cc := cX6_told) (maxL := 3) (ret := (some .int)) (by decide) rfl ?_
  intro p e s m args below meth c s₁ B hml hv
  obtain ⟨rfl, hsz, hP, hK, hD0⟩ := hv
  have hx := B.exec
  have hb := B.bytes
  have hr := B.returns
  have hts := atoms_spec (ws := wsX6_told) B.pre
  have hown : s.vm.findClass RX6 = some m.cls := findClass_of_methodNamed B.named
  have hlocks := B.notSynchronized
  subst hsz
  have hD := hD0.self (sz := s.heap.size)
  generalize hAe : va_A [(h0, .inr (6, [.int 0, .ref kd, .ref mo, .ref st, .int 0, .ref ro, .ref tp, .int 0, .ref cd, .ref sr, .int 1, .int 0, .int 0, .ref ir, .ref ih, .ref ss, .ref sq, .ref ce, .ref lw, .int 40, .int 40, .int 0, .int 0, .ref wo, .ref he, .int 0, .int 0, .int 5, .ref sk, .ref na, .ref kp, .int 0, .int 0, .int 0, .int 0, .ref gb, .ref go, .ref fa, .ref ga, .int 0, .int 0, .ref vo]))] s.heap.size = A at hD ⊢
  have hA : ∀ q : Nat, s.heap.size ≤ q → A q := fun q h => by rw [← hAe]; exact Or.inr h
  have hS : va_S A s.heap s.heap [] := va_S.rf
  have hP : va_P G.1 vwCl [(h0, .inr (6, [.int 0, .ref kd, .ref mo, .ref st, .int 0, .ref ro, .ref tp, .int 0, .ref cd, .ref sr, .int 1, .int 0, .int 0, .ref ir, .ref ih, .ref ss, .ref sq, .ref ce, .ref lw, .int 40, .int 40, .int 0, .int 0, .ref wo, .ref he, .int 0, .int 0, .int 5, .ref sk, .ref na, .ref kp, .int 0, .int 0, .int 0, .int 0, .ref gb, .ref go, .ref fa, .ref ga, .int 0, .int 0, .ref vo]))] s.heap := hP
  have hD : va_D A [(h0, .inr (6, [.int 0, .ref kd, .ref mo, .ref st, .int 0, .ref ro, .ref tp, .int 0, .ref cd, .ref sr, .int 1, .int 0, .int 0, .ref ir, .ref ih, .ref ss, .ref sq, .ref ce, .ref lw, .int 40, .int 40, .int 0, .int 0, .ref wo, .ref he, .int 0, .int 0, .int 5, .ref sk, .ref na, .ref kp, .int 0, .int 0, .int 0, .int 0, .ref gb, .ref go, .ref fa, .ref ga, .int 0, .int 0, .ref vo]))] := hD
  have hl := lv_entry ([.ref h0, .int v0, .int v1]) (n := 3) (Nat.le_of_ble_eq_true rfl)
  rw [lg_entry_eq]
  generalize (lg_sl ([.ref h0, .int v0, .int v1]) ++ List.replicate (3 - (lg_sl ([.ref h0, .int v0, .int v1])).length) Slot.unset).toArray = ls at hl ⊢
  have hl : lv_has ls 3 [(0, .ref h0), (1, .int v0), (2, .int v1)] := hl
  refine lv_aload_n hx hb dX6_told_0 rfl (lv_at hl 0 rfl) ?_
  refine lv_iload_n hx hb dX6_told_1 rfl (lv_at hl 1 rfl) ?_
  have hPc : va_P G.1 vwCl [(h0, .inr (6, [.int 0, .ref kd, .ref mo, .ref st, .int 0, .ref ro, .ref tp, .int 0, .ref cd, .ref sr, .int 1, .int 0, .int 0, .ref ir, .ref ih, .ref ss, .ref sq, .ref ce, .ref lw, .int 40, .int 40, .int 0, .int 0, .ref wo, .ref he, .int 0, .int 0, .int 5, .ref sk, .ref na, .ref kp, .int 0, .int 0, .int 0, .int 0, .ref gb, .ref go, .ref fa, .ref ga, .int 0, .int 0, .ref vo]))] s.heap := hP.sub [0] rfl
  have hDc : va_D A [(h0, .inr (6, [.int 0, .ref kd, .ref mo, .ref st, .int 0, .ref ro, .ref tp, .int 0, .ref cd, .ref sr, .int 1, .int 0, .int 0, .ref ir, .ref ih, .ref ss, .ref sq, .ref ce, .ref lw, .int 40, .int 40, .int 0, .int 0, .ref wo, .ref he, .int 0, .int 0, .int 5, .ref sk, .ref na, .ref kp, .int 0, .int 0, .int 0, .int 0, .ref gb, .ref go, .ref fa, .ref ga, .int 0, .int 0, .ref vo]))] := hD.sub [0] (by decide) rfl
  have hFc := va_free (wc := [(h0, .inr (6, [.int 0, .ref kd, .ref mo, .ref st, .int 0, .ref ro, .ref tp, .int 0, .ref cd, .ref sr, .int 1, .int 0, .int 0, .ref ir, .ref ih, .ref ss, .ref sq, .ref ce, .ref lw, .int 40, .int 40, .int 0, .int 0, .ref wo, .ref he, .int 0, .int 0, .int 5, .ref sk, .ref na, .ref kp, .int 0, .int 0, .int 0, .int 0, .ref gb, .ref go, .ref fa, .ref ga, .int 0, .int 0, .ref vo]))]) hD hS hA [0] rfl
  refine va_calli (va_runV (As := [.int v0]) (rest := []) ⟨hx, hb, hml, hown, hts⟩ (c_X6_isPebble_0 l G h0 kd mo st ro tp cd sr ir ih ss sq ce lw wo he sk na kp gb go fa ga vo v0 s.heap.size) (cwV 1 hts gX6_told_X6_isPebble rfl rfl rfl (by decide +kernel) ⟨Nat.le_of_ble_eq_true rfl, Nat.le_of_ble_eq_true rfl⟩) ⟨gPre_blind, va_recv hK hPc (ci := 6) (q0 := 0) rfl rfl, fun U hU hW => gPre_of hU hW hK hPc hDc⟩ rfl rfl hl.1 rfl (lv_room (Nat.le_of_ble_eq_true rfl)) dX6_told_2 ⟨Nat.le_of_ble_eq_true rfl, Nat.le_of_ble_eq_true rfl⟩) hS (fun q _ h => hFc q h) hFc (fun r_1 u t H locs ht hvm w_2 hB hz1 hk1 hS => ?_)
  obtain ⟨hP1, hK1, hD1⟩ := hB
  rw [ht] at hP1
  have hP1 : va_P G.1 vwCl [(h0, .inr (6, [.int 0, .ref kd, .ref mo, .ref st, .int 0, .ref ro, .ref tp, .int 0, .ref cd, .ref sr, .int 1, .int 0, .int 0, .ref ir, .ref ih, .ref ss, .ref sq, .ref ce, .ref lw, .int 40, .int 40, .int 0, .int 0, .ref wo, .ref he, .int 0, .int 0, .int 5, .ref sk, .ref na, .ref kp, .int 0, .int 0, .int 0, .int 0, .ref gb, .ref go, .ref fa, .ref ga, .int 0, .int 0, .ref vo]))] H := hP1
  have hD1 : va_D (va_A [(h0, .inr (6, [.int 0, .ref kd, .ref mo, .ref st, .int 0, .ref ro, .ref tp, .int 0, .ref cd, .ref sr, .int 1, .int 0, .int 0, .ref ir, .ref ih, .ref ss, .ref sq, .ref ce, .ref lw, .int 40, .int 40, .int 0, .int 0, .ref wo, .ref he, .int 0, .int 0, .int 5, .ref sk, .ref na, .ref kp, .int 0, .int 0, .int 0, .int 0, .ref gb, .ref go, .ref fa, .ref ga, .int 0, .int 0, .ref vo]))] s.heap.size) [(h0, .inr (6, [.int 0, .ref kd, .ref mo, .ref st, .int 0, .ref ro, .ref tp, .int 0, .ref cd, .ref sr, .int 1, .int 0, .int 0, .ref ir, .ref ih, .ref ss, .ref sq, .ref ce, .ref lw, .int 40, .int 40, .int 0, .int 0, .ref wo, .ref he, .int 0, .int 0, .int 5, .ref sk, .ref na, .ref kp, .int 0, .int 0, .int 0, .int 0, .ref gb, .ref go, .ref fa, .ref ga, .int 0, .int 0, .ref vo]))] := hD1
  have w_2 : r_1 = 0 := w_2
  obtain ⟨hP, hD⟩ := va_join (wr := []) (w1 := [(h0, .inr (6, [.int 0, .ref kd, .ref mo, .ref st, .int 0, .ref ro, .ref tp, .int 0, .ref cd, .ref sr, .int 1, .int 0, .int 0, .ref ir, .ref ih, .ref ss, .ref sq, .ref ce, .ref lw, .int 40, .int 40, .int 0, .int 0, .ref wo, .ref he, .int 0, .int 0, .int 5, .ref sk, .ref na, .ref kp, .int 0, .int 0, .int 0, .int 0, .ref gb, .ref go, .ref fa, .ref ga, .int 0, .int 0, .ref vo]))]) hP hD [0] [] rfl rfl (by decide) (by decide) hk1 hFc hP1 hD1
  have hP : va_P G.1 vwCl [(h0, .inr (6, [.int 0, .ref kd, .ref mo, .ref st, .int 0, .ref ro, .ref tp, .int 0, .ref cd, .ref sr, .int 1, .int 0, .int 0, .ref ir, .ref ih, .ref ss, .ref sq, .ref ce, .ref lw, .int 40, .int 40, .int 0, .int 0, .ref wo, .ref he, .int 0, .int 0, .int 5, .ref sk, .ref na, .ref kp, .int 0, .int 0, .int 0, .int 0, .ref gb, .ref go, .ref fa, .ref ga, .int 0, .int 0, .ref vo]))] H := hP
  have hD : va_D A [(h0, .inr (6, [.int 0, .ref kd, .ref mo, .ref st, .int 0, .ref ro, .ref tp, .int 0, .ref cd, .ref sr, .int 1, .int 0, .int 0, .ref ir, .ref ih, .ref ss, .ref sq, .ref ce, .ref lw, .int 40, .int 40, .int 0, .int 0, .ref wo, .ref he, .int 0, .int 0, .int 5, .ref sk, .ref na, .ref kp, .int 0, .int 0, .int 0, .int 0, .ref gb, .ref go, .ref fa, .ref ga, .int 0, .int 0, .ref vo]))] := hD
  have w_2 : r_1 = 0 := w_2
  subst w_2
  refine lv_if_ne (tgt := 11) hx hb dX6_told_5 (by decide) (fun c_3 => ?_) (fun c_3 => ?_)
  · exact absurd (by decide) c_3
  refine lv_bipush (v := -5) hx hb dX6_told_8 (by decide) ?_
  have hpost : (fun (r : Int32) (u : Unit) => match u with | _ => r = -5) (-5) () := pp_X6_told_0_1 v0 v1 
  exact W.iret (v := (-5)) hx hb hr (fun t ht hW => ⟨⟨(-5), (), rfl, hpost, trivial⟩, hS.F ht⟩) hS.2.2 dX6_told_10
theorem pp_X6_walk_0_1 (v0 : Int32) (v1 : Int32) (v2 : Int32) : ((-5) : Int32) = -5 := by
  first
    | rfl
    | exact bz_pos (by (first | omega | (simp only [Int32.lt_iff_toInt_lt, Int32.le_iff_toInt_le, ← Int32.toInt_inj, Int32.reduceToInt] at * <;> omega)))
    | exact bz_neg (by (first | omega | (simp only [Int32.lt_iff_toInt_lt, Int32.le_iff_toInt_le, ← Int32.toInt_inj, Int32.reduceToInt] at * <;> omega)))
    | ((repeat' split) <;> first | rfl | assumption | (symm; assumption) | (exfalso; (first | omega | (simp only [Int32.lt_iff_toInt_lt, Int32.le_iff_toInt_le, ← Int32.toInt_inj, Int32.reduceToInt] at * <;> omega))))
abbrev q_X6_walk_0 (G : gG) (h0 kd mo st ro tp cd sr ir ih ss sq ce lw wo he sk na kp gb go fa ga vo : Nat) (v0 : Int32) (v1 : Int32) (v2 : Int32) (A : Nat → Prop) : Array Value → State → Outcome → State → Prop := va_Qi (fun (r : Int32) (u : Unit) => match u with | _ => r = -5) (fun (u : Unit) t => match u with | _ => True) A
set_option maxHeartbeats 4000000 in
set_option maxRecDepth 100000 in
theorem c_X6_walk_0 (l : Launch) (G : gG) (h0 kd mo st ro tp cd sr ir ih ss sq ce lw wo he sk na kp gb go fa ga vo : Nat) (v0 : Int32) (v1 : Int32) (v2 : Int32) (sz : Nat) : Met l yX6_walk wsX6_walk ({ frames := 2, cells := 0, slots := 0, locals := 43 }) (gPre G [.ref h0, .int v0, .int v1, .int v2] [(h0, .inr (6, [.int 0, .ref kd, .ref mo, .ref st, .int 0, .ref ro, .ref tp, .int 0, .ref cd, .ref sr, .int 1, .int 0, .int 0, .ref ir, .ref ih, .ref ss, .ref sq, .ref ce, .ref lw, .int 40, .int 40, .int 0, .int 0, .ref wo, .ref he, .int 0, .int 0, .int 5, .ref sk, .ref na, .ref kp, .int 0, .int 0, .int 0, .int 0, .ref gb, .ref go, .ref fa, .ref ga, .int 0, .int 0, .ref vo]))] sz) (q_X6_walk_0 G h0 kd mo st ro tp cd sr ir ih ss sq ce lw wo he sk na kp gb go fa ga vo v0 v1 v2 (va_A [(h0, .inr (6, [.int 0, .ref kd, .ref mo, .ref st, .int 0, .ref ro, .ref tp, .int 0, .ref cd, .ref sr, .int 1, .int 0, .int 0, .ref ir, .ref ih, .ref ss, .ref sq, .ref ce, .ref lw, .int 40, .int 40, .int 0, .int 0, .ref wo, .ref he, .int 0, .int 0, .int 5, .ref sk, .ref na, .ref kp, .int 0, .int 0, .int 0, .int 0, .ref gb, .ref go, .ref fa, .ref ga, .int 0, .int 0, .ref vo]))] sz)) 0 0 (va_A [(h0, .inr (6, [.int 0, .ref kd, .ref mo, .ref st, .int 0, .ref ro, .ref tp, .int 0, .ref cd, .ref sr, .int 1, .int 0, .int 0, .ref ir, .ref ih, .ref ss, .ref sq, .ref ce, .ref lw, .int 40, .int 40, .int 0, .int 0, .ref wo, .ref he, .int 0, .int 0, .int 5, .ref sk, .ref na, .ref kp, .int 0, .int 0, .int 0, .int 0, .ref gb, .ref go, .ref fa, .ref ga, .int 0, .int 0, .ref vo]))] sz) := by
  refine Met.ofW (cc := cX6_walk) (maxL := 4) (ret := (some .int)) (by decide) rfl ?_
  intro p e s m args below meth c s₁ B hml hv
  obtain ⟨rfl, hsz, hP, hK, hD0⟩ := hv
  have hx := B.exec
  have hb := B.bytes
  have hr := B.returns
  have hts := atoms_spec (ws := wsX6_walk) B.pre
  have hown : s.vm.findClass RX6 = some m.cls := findClass_of_methodNamed B.named
  have hlocks := B.notSynchronized
  subst hsz
  have hD := hD0.self (sz := s.heap.size)
  generalize hAe : va_A [(h0, .inr (6, [.int 0, .ref kd, .ref mo, .ref st, .int 0, .ref ro, .ref tp, .int 0, .ref cd, .ref sr, .int 1, .int 0, .int 0, .ref ir, .ref ih, .ref ss, .ref sq, .ref ce, .ref lw, .int 40, .int 40, .int 0, .int 0, .ref wo, .ref he, .int 0, .int 0, .int 5, .ref sk, .ref na, .ref kp, .int 0, .int 0, .int 0, .int 0, .ref gb, .ref go, .ref fa, .ref ga, .int 0, .int 0, .ref vo]))] s.heap.size = A at hD ⊢
  have hA : ∀ q : Nat, s.heap.size ≤ q → A q := fun q h => by rw [← hAe]; exact Or.inr h
  have hS : va_S A s.heap s.heap [] := va_S.rf
  have hP : va_P G.1 vwCl [(h0, .inr (6, [.int 0, .ref kd, .ref mo, .ref st, .int 0, .ref ro, .ref tp, .int 0, .ref cd, .ref sr, .int 1, .int 0, .int 0, .ref ir, .ref ih, .ref ss, .ref sq, .ref ce, .ref lw, .int 40, .int 40, .int 0, .int 0, .ref wo, .ref he, .int 0, .int 0, .int 5, .ref sk, .ref na, .ref kp, .int 0, .int 0, .int 0, .int 0, .ref gb, .ref go, .ref fa, .ref ga, .int 0, .int 0, .ref vo]))] s.heap := hP
  have hD : va_D A [(h0, .inr (6, [.int 0, .ref kd, .ref mo, .ref st, .int 0, .ref ro, .ref tp, .int 0, .ref cd, .ref sr, .int 1, .int 0, .int 0, .ref ir, .ref ih, .ref ss, .ref sq, .ref ce, .ref lw, .int 40, .int 40, .int 0, .int 0, .ref wo, .ref he, .int 0, .int 0, .int 5, .ref sk, .ref na, .ref kp, .int 0, .int 0, .int 0, .int 0, .ref gb, .ref go, .ref fa, .ref ga, .int 0, .int 0, .ref vo]))] := hD
  have hl := lv_entry ([.ref h0, .int v0, .int v1, .int v2]) (n := 4) (Nat.le_of_ble_eq_true rfl)
  rw [lg_entry_eq]
  generalize (lg_sl ([.ref h0, .int v0, .int v1, .int v2]) ++ List.replicate (4 - (lg_sl ([.ref h0, .int v0, .int v1, .int v2])).length) Slot.unset).toArray = ls at hl ⊢
  have hl : lv_has ls 4 [(0, .ref h0), (1, .int v0), (2, .int v1), (3, .int v2)] := hl
  refine lv_aload_n hx hb dX6_walk_0 rfl (lv_at hl 0 rfl) ?_
  refine lv_iload_n hx hb dX6_walk_1 rfl (lv_at hl 1 rfl) ?_
  have hPc : va_P G.1 vwCl [(h0, .inr (6, [.int 0, .ref kd, .ref mo, .ref st, .int 0, .ref ro, .ref tp, .int 0, .ref cd, .ref sr, .int 1, .int 0, .int 0, .ref ir, .ref ih, .ref ss, .ref sq, .ref ce, .ref lw, .int 40, .int 40, .int 0, .int 0, .ref wo, .ref he, .int 0, .int 0, .int 5, .ref sk, .ref na, .ref kp, .int 0, .int 0, .int 0, .int 0, .ref gb, .ref go, .ref fa, .ref ga, .int 0, .int 0, .ref vo]))] s.heap := hP.sub [0] rfl
  have hDc : va_D A [(h0, .inr (6, [.int 0, .ref kd, .ref mo, .ref st, .int 0, .ref ro, .ref tp, .int 0, .ref cd, .ref sr, .int 1, .int 0, .int 0, .ref ir, .ref ih, .ref ss, .ref sq, .ref ce, .ref lw, .int 40, .int 40, .int 0, .int 0, .ref wo, .ref he, .int 0, .int 0, .int 5, .ref sk, .ref na, .ref kp, .int 0, .int 0, .int 0, .int 0, .ref gb, .ref go, .ref fa, .ref ga, .int 0, .int 0, .ref vo]))] := hD.sub [0] (by decide) rfl
  have hFc := va_free (wc := [(h0, .inr (6, [.int 0, .ref kd, .ref mo, .ref st, .int 0, .ref ro, .ref tp, .int 0, .ref cd, .ref sr, .int 1, .int 0, .int 0, .ref ir, .ref ih, .ref ss, .ref sq, .ref ce, .ref lw, .int 40, .int 40, .int 0, .int 0, .ref wo, .ref he, .int 0, .int 0, .int 5, .ref sk, .ref na, .ref kp, .int 0, .int 0, .int 0, .int 0, .ref gb, .ref go, .ref fa, .ref ga, .int 0, .int 0, .ref vo]))]) hD hS hA [0] rfl
  refine va_calli (va_runV (As := [.int v0]) (rest := []) ⟨hx, hb, hml, hown, hts⟩ (c_X6_isJudge_0 l G h0 kd mo st ro tp cd sr ir ih ss sq ce lw wo he sk na kp gb go fa ga vo v0 s.heap.size) (cwV 1 hts gX6_walk_X6_isJudge rfl rfl rfl (by decide +kernel) ⟨Nat.le_of_ble_eq_true rfl, Nat.le_of_ble_eq_true rfl⟩) ⟨gPre_blind, va_recv hK hPc (ci := 6) (q0 := 0) rfl rfl, fun U hU hW => gPre_of hU hW hK hPc hDc⟩ rfl rfl hl.1 rfl (lv_room (Nat.le_of_ble_eq_true rfl)) dX6_walk_2 ⟨Nat.le_of_ble_eq_true rfl, Nat.le_of_ble_eq_true rfl⟩) hS (fun q _ h => hFc q h) hFc (fun r_1 u t H locs ht hvm w_2 hB hz1 hk1 hS => ?_)
  obtain ⟨hP1, hK1, hD1⟩ := hB
  rw [ht] at hP1
  have hP1 : va_P G.1 vwCl [(h0, .inr (6, [.int 0, .ref kd, .ref mo, .ref st, .int 0, .ref ro, .ref tp, .int 0, .ref cd, .ref sr, .int 1, .int 0, .int 0, .ref ir, .ref ih, .ref ss, .ref sq, .ref ce, .ref lw, .int 40, .int 40, .int 0, .int 0, .ref wo, .ref he, .int 0, .int 0, .int 5, .ref sk, .ref na, .ref kp, .int 0, .int 0, .int 0, .int 0, .ref gb, .ref go, .ref fa, .ref ga, .int 0, .int 0, .ref vo]))] H := hP1
  have hD1 : va_D (va_A [(h0, .inr (6, [.int 0, .ref kd, .ref mo, .ref st, .int 0, .ref ro, .ref tp, .int 0, .ref cd, .ref sr, .int 1, .int 0, .int 0, .ref ir, .ref ih, .ref ss, .ref sq, .ref ce, .ref lw, .int 40, .int 40, .int 0, .int 0, .ref wo, .ref he, .int 0, .int 0, .int 5, .ref sk, .ref na, .ref kp, .int 0, .int 0, .int 0, .int 0, .ref gb, .ref go, .ref fa, .ref ga, .int 0, .int 0, .ref vo]))] s.heap.size) [(h0, .inr (6, [.int 0, .ref kd, .ref mo, .ref st, .int 0, .ref ro, .ref tp, .int 0, .ref cd, .ref sr, .int 1, .int 0, .int 0, .ref ir, .ref ih, .ref ss, .ref sq, .ref ce, .ref lw, .int 40, .int 40, .int 0, .int 0, .ref wo, .ref he, .int 0, .int 0, .int 5, .ref sk, .ref na, .ref kp, .int 0, .int 0, .int 0, .int 0, .ref gb, .ref go, .ref fa, .ref ga, .int 0, .int 0, .ref vo]))] := hD1
  have w_2 : r_1 = 0 := w_2
  obtain ⟨hP, hD⟩ := va_join (wr := []) (w1 := [(h0, .inr (6, [.int 0, .ref kd, .ref mo, .ref st, .int 0, .ref ro, .ref tp, .int 0, .ref cd, .ref sr, .int 1, .int 0, .int 0, .ref ir, .ref ih, .ref ss, .ref sq, .ref ce, .ref lw, .int 40, .int 40, .int 0, .int 0, .ref wo, .ref he, .int 0, .int 0, .int 5, .ref sk, .ref na, .ref kp, .int 0, .int 0, .int 0, .int 0, .ref gb, .ref go, .ref fa, .ref ga, .int 0, .int 0, .ref vo]))]) hP hD [0] [] rfl rfl (by decide) (by decide) hk1 hFc hP1 hD1
  have hP : va_P G.1 vwCl [(h0, .inr (6, [.int 0, .ref kd, .ref mo, .ref st, .int 0, .ref ro, .ref tp, .int 0, .ref cd, .ref sr, .int 1, .int 0, .int 0, .ref ir, .ref ih, .ref ss, .ref sq, .ref ce, .ref lw, .int 40, .int 40, .int 0, .int 0, .ref wo, .ref he, .int 0, .int 0, .int 5, .ref sk, .ref na, .ref kp, .int 0, .int 0, .int 0, .int 0, .ref gb, .ref go, .ref fa, .ref ga, .int 0, .int 0, .ref vo]))] H := hP
  have hD : va_D A [(h0, .inr (6, [.int 0, .ref kd, .ref mo, .ref st, .int 0, .ref ro, .ref tp, .int 0, .ref cd, .ref sr, .int 1, .int 0, .int 0, .ref ir, .ref ih, .ref ss, .ref sq, .ref ce, .ref lw, .int 40, .int 40, .int 0, .int 0, .ref wo, .ref he, .int 0, .int 0, .int 5, .ref sk, .ref na, .ref kp, .int 0, .int 0, .int 0, .int 0, .ref gb, .ref go, .ref fa, .ref ga, .int 0, .int 0, .ref vo]))] := hD
  have w_2 : r_1 = 0 := w_2
  subst w_2
  refine lv_if_eq (tgt := 16) hx hb dX6_walk_5 (by decide) (fun c_3 => ?_) (fun c_3 => ?_)
  rotate_left
  · exact absurd (by decide) c_3
  refine lv_bipush (v := -5) hx hb dX6_walk_16 (by decide) ?_
  have hpost : (fun (r : Int32) (u : Unit) => match u with | _ => r = -5) (-5) () := pp_X6_walk_0_1 v0 v1 v2 
  exact W.iret (v := (-5)) hx hb hr (fun t ht hW => ⟨⟨(-5), (), rfl, hpost, trivial⟩, hS.F ht⟩) hS.2.2 dX6_walk_18
theorem pp_X6_hear_0_1 (v0 : Int32) (v1 : Int32) (v2 : Int32) (v3 : Int32) : ((-5) : Int32) = -5 := by
  first
    | rfl
    | exact bz_pos (by (first | omega | (simp only [Int32.lt_iff_toInt_lt, Int32.le_iff_toInt_le, ← Int32.toInt_inj, Int32.reduceToInt] at * <;> omega)))
    | exact bz_neg (by (first | omega | (simp only [Int32.lt_iff_toInt_lt, Int32.le_iff_toInt_le, ← Int32.toInt_inj, Int32.reduceToInt] at * <;> omega)))
    | ((repeat' split) <;> first | rfl | assumption | (symm; assumption) | (exfalso; (first | omega | (simp only [Int32.lt_iff_toInt_lt, Int32.le_iff_toInt_le, ← Int32.toInt_inj, Int32.reduceToInt] at * <;> omega))))
abbrev q_X6_hear_0 (G : gG) (h0 kd mo st ro tp cd sr ir ih ss sq ce lw wo he sk na kp gb go fa ga vo : Nat) (v0 : Int32) (v1 : Int32) (v2 : Int32) (v3 : Int32) (A : Nat → Prop) : Array Value → State → Outcome → State → Prop := va_Qi (fun (r : Int32) (u : Unit) => match u with | _ => r = -5) (fun (u : Unit) t => match u with | _ => True) A
set_option maxHeartbeats 4000000 in
set_option maxRecDepth 100000 in
theorem c_X6_hear_0 (l : Launch) (G : gG) (h0 kd mo st ro tp cd sr ir ih ss sq ce lw wo he sk na kp gb go fa ga vo : Nat) (v0 : Int32) (v1 : Int32) (v2 : Int32) (v3 : Int32) (sz : Nat) : Met l yX6_hear wsX6_hear ({ frames := 2, cells := 0, slots := 0, locals := 43 }) (gPre G [.ref h0, .int v0, .int v1, .int v2, .int v3] [(h0, .inr (6, [.int 0, .ref kd, .ref mo, .ref st, .int 0, .ref ro, .ref tp, .int 0, .ref cd, .ref sr, .int 1, .int 0, .int 0, .ref ir, .ref ih, .ref ss, .ref sq, .ref ce, .ref lw, .int 40, .int 40, .int 0, .int 0, .ref wo, .ref he, .int 0, .int 0, .int 5, .ref sk, .ref na, .ref kp, .int 0, .int 0, .int 0, .int 0, .ref gb, .ref go, .ref fa, .ref ga, .int 0, .int 0, .ref vo]))] sz) (q_X6_hear_0 G h0 kd mo st ro tp cd sr ir ih ss sq ce lw wo he sk na kp gb go fa ga vo v0 v1 v2 v3 (va_A [(h0, .inr (6, [.int 0, .ref kd, .ref mo, .ref st, .int 0, .ref ro, .ref tp, .int 0, .ref cd, .ref sr, .int 1, .int 0, .int 0, .ref ir, .ref ih, .ref ss, .ref sq, .ref ce, .ref lw, .int 40, .int 40, .int 0, .int 0, .ref wo, .ref he, .int 0, .int 0, .int 5, .ref sk, .ref na, .ref kp, .int 0, .int 0, .int 0, .int 0, .ref gb, .ref go, .ref fa, .ref ga, .int 0, .int 0, .ref vo]))] sz)) 0 0 (va_A [(h0, .inr (6, [.int 0, .ref kd, .ref mo, .ref st, .int 0, .ref ro, .ref tp, .int 0, .ref cd, .ref sr, .int 1, .int 0, .int 0, .ref ir, .ref ih, .ref ss, .ref sq, .ref ce, .ref lw, .int 40, .int 40, .int 0, .int 0, .ref wo, .ref he, .int 0, .int 0, .int 5, .ref sk, .ref na, .ref kp, .int 0, .int 0, .int 0, .int 0, .ref gb, .ref go, .ref fa, .ref ga, .int 0, .int 0, .ref vo]))] sz) := by
  refine Met.ofW (cc := cX6_hear) (maxL := 5) (ret := (some .int)) (by decide) rfl ?_
  intro p e s m args below meth c s₁ B hml hv
  obtain ⟨rfl, hsz, hP, hK, hD0⟩ := hv
  have hx := B.exec
  have hb := B.bytes
  have hr := B.returns
  have hts := atoms_spec (ws := wsX6_hear) B.pre
  have hown : s.vm.findClass RX6 = some m.cls := findClass_of_methodNamed B.named
  have hlocks := B.notSynchronized
  subst hsz
  have hD := hD0.self (sz := s.heap.size)
  generalize hAe : va_A [(h0, .inr (6, [.int 0, .ref kd, .ref mo, .ref st, .int 0, .ref ro, .ref tp, .int 0, .ref cd, .ref sr, .int 1, .int 0, .int 0, .ref ir, .ref ih, .ref ss, .ref sq, .ref ce, .ref lw, .int 40, .int 40, .int 0, .int 0, .ref wo, .ref he, .int 0, .int 0, .int 5, .ref sk, .ref na, .ref kp, .int 0, .int 0, .int 0, .int 0, .ref gb, .ref go, .ref fa, .ref ga, .int 0, .int 0, .ref vo]))] s.heap.size = A at hD ⊢
  have hA : ∀ q : Nat, s.heap.size ≤ q → A q := fun q h => by rw [← hAe]; exact Or.inr h
  have hS : va_S A s.heap s.heap [] := va_S.rf
  have hP : va_P G.1 vwCl [(h0, .inr (6, [.int 0, .ref kd, .ref mo, .ref st, .int 0, .ref ro, .ref tp, .int 0, .ref cd, .ref sr, .int 1, .int 0, .int 0, .ref ir, .ref ih, .ref ss, .ref sq, .ref ce, .ref lw, .int 40, .int 40, .int 0, .int 0, .ref wo, .ref he, .int 0, .int 0, .int 5, .ref sk, .ref na, .ref kp, .int 0, .int 0, .int 0, .int 0, .ref gb, .ref go, .ref fa, .ref ga, .int 0, .int 0, .ref vo]))] s.heap := hP
  have hD : va_D A [(h0, .inr (6, [.int 0, .ref kd, .ref mo, .ref st, .int 0, .ref ro, .ref tp, .int 0, .ref cd, .ref sr, .int 1, .int 0, .int 0, .ref ir, .ref ih, .ref ss, .ref sq, .ref ce, .ref lw, .int 40, .int 40, .int 0, .int 0, .ref wo, .ref he, .int 0, .int 0, .int 5, .ref sk, .ref na, .ref kp, .int 0, .int 0, .int 0, .int 0, .ref gb, .ref go, .ref fa, .ref ga, .int 0, .int 0, .ref vo]))] := hD
  have hl := lv_entry ([.ref h0, .int v0, .int v1, .int v2, .int v3]) (n := 5) (Nat.le_of_ble_eq_true rfl)
  rw [lg_entry_eq]
  generalize (lg_sl ([.ref h0, .int v0, .int v1, .int v2, .int v3]) ++ List.replicate (5 - (lg_sl ([.ref h0, .int v0, .int v1, .int v2, .int v3])).length) Slot.unset).toArray = ls at hl ⊢
  have hl : lv_has ls 5 [(0, .ref h0), (1, .int v0), (2, .int v1), (3, .int v2), (4, .int v3)] := hl
  refine lv_aload_n hx hb dX6_hear_0 rfl (lv_at hl 0 rfl) ?_
  refine lv_iload_n hx hb dX6_hear_1 rfl (lv_at hl 1 rfl) ?_
  have hPc : va_P G.1 vwCl [(h0, .inr (6, [.int 0, .ref kd, .ref mo, .ref st, .int 0, .ref ro, .ref tp, .int 0, .ref cd, .ref sr, .int 1, .int 0, .int 0, .ref ir, .ref ih, .ref ss, .ref sq, .ref ce, .ref lw, .int 40, .int 40, .int 0, .int 0, .ref wo, .ref he, .int 0, .int 0, .int 5, .ref sk, .ref na, .ref kp, .int 0, .int 0, .int 0, .int 0, .ref gb, .ref go, .ref fa, .ref ga, .int 0, .int 0, .ref vo]))] s.heap := hP.sub [0] rfl
  have hDc : va_D A [(h0, .inr (6, [.int 0, .ref kd, .ref mo, .ref st, .int 0, .ref ro, .ref tp, .int 0, .ref cd, .ref sr, .int 1, .int 0, .int 0, .ref ir, .ref ih, .ref ss, .ref sq, .ref ce, .ref lw, .int 40, .int 40, .int 0, .int 0, .ref wo, .ref he, .int 0, .int 0, .int 5, .ref sk, .ref na, .ref kp, .int 0, .int 0, .int 0, .int 0, .ref gb, .ref go, .ref fa, .ref ga, .int 0, .int 0, .ref vo]))] := hD.sub [0] (by decide) rfl
  have hFc := va_free (wc := [(h0, .inr (6, [.int 0, .ref kd, .ref mo, .ref st, .int 0, .ref ro, .ref tp, .int 0, .ref cd, .ref sr, .int 1, .int 0, .int 0, .ref ir, .ref ih, .ref ss, .ref sq, .ref ce, .ref lw, .int 40, .int 40, .int 0, .int 0, .ref wo, .ref he, .int 0, .int 0, .int 5, .ref sk, .ref na, .ref kp, .int 0, .int 0, .int 0, .int 0, .ref gb, .ref go, .ref fa, .ref ga, .int 0, .int 0, .ref vo]))]) hD hS hA [0] rfl
  refine va_calli (va_runV (As := [.int v0]) (rest := []) ⟨hx, hb, hml, hown, hts⟩ (c_X6_isJudge_0 l G h0 kd mo st ro tp cd sr ir ih ss sq ce lw wo he sk na kp gb go fa ga vo v0 s.heap.size) (cwV 1 hts gX6_hear_X6_isJudge rfl rfl rfl (by decide +kernel) ⟨Nat.le_of_ble_eq_true rfl, Nat.le_of_ble_eq_true rfl⟩) ⟨gPre_blind, va_recv hK hPc (ci := 6) (q0 := 0) rfl rfl, fun U hU hW => gPre_of hU hW hK hPc hDc⟩ rfl rfl hl.1 rfl (lv_room (Nat.le_of_ble_eq_true rfl)) dX6_hear_2 ⟨Nat.le_of_ble_eq_true rfl, Nat.le_of_ble_eq_true rfl⟩) hS (fun q _ h => hFc q h) hFc (fun r_1 u t H locs ht hvm w_2 hB hz1 hk1 hS => ?_)
  obtain ⟨hP1, hK1, hD1⟩ := hB
  rw [ht] at hP1
  have hP1 : va_P G.1 vwCl [(h0, .inr (6, [.int 0, .ref kd, .ref mo, .ref st, .int 0, .ref ro, .ref tp, .int 0, .ref cd, .ref sr, .int 1, .int 0, .int 0, .ref ir, .ref ih, .ref ss, .ref sq, .ref ce, .ref lw, .int 40, .int 40, .int 0, .int 0, .ref wo, .ref he, .int 0, .int 0, .int 5, .ref sk, .ref na, .ref kp, .int 0, .int 0, .int 0, .int 0, .ref gb, .ref go, .ref fa, .ref ga, .int 0, .int 0, .ref vo]))] H := hP1
  have hD1 : va_D (va_A [(h0, .inr (6, [.int 0, .ref kd, .ref mo, .ref st, .int 0, .ref ro, .ref tp, .int 0, .ref cd, .ref sr, .int 1, .int 0, .int 0, .ref ir, .ref ih, .ref ss, .ref sq, .ref ce, .ref lw, .int 40, .int 40, .int 0, .int 0, .ref wo, .ref he, .int 0, .int 0, .int 5, .ref sk, .ref na, .ref kp, .int 0, .int 0, .int 0, .int 0, .ref gb, .ref go, .ref fa, .ref ga, .int 0, .int 0, .ref vo]))] s.heap.size) [(h0, .inr (6, [.int 0, .ref kd, .ref mo, .ref st, .int 0, .ref ro, .ref tp, .int 0, .ref cd, .ref sr, .int 1, .int 0, .int 0, .ref ir, .ref ih, .ref ss, .ref sq, .ref ce, .ref lw, .int 40, .int 40, .int 0, .int 0, .ref wo, .ref he, .int 0, .int 0, .int 5, .ref sk, .ref na, .ref kp, .int 0, .int 0, .int 0, .int 0, .ref gb, .ref go, .ref fa, .ref ga, .int 0, .int 0, .ref vo]))] := hD1
  have w_2 : r_1 = 0 := w_2
  obtain ⟨hP, hD⟩ := va_join (wr := []) (w1 := [(h0, .inr (6, [.int 0, .ref kd, .ref mo, .ref st, .int 0, .ref ro, .ref tp, .int 0, .ref cd, .ref sr, .int 1, .int 0, .int 0, .ref ir, .ref ih, .ref ss, .ref sq, .ref ce, .ref lw, .int 40, .int 40, .int 0, .int 0, .ref wo, .ref he, .int 0, .int 0, .int 5, .ref sk, .ref na, .ref kp, .int 0, .int 0, .int 0, .int 0, .ref gb, .ref go, .ref fa, .ref ga, .int 0, .int 0, .ref vo]))]) hP hD [0] [] rfl rfl (by decide) (by decide) hk1 hFc hP1 hD1
  have hP : va_P G.1 vwCl [(h0, .inr (6, [.int 0, .ref kd, .ref mo, .ref st, .int 0, .ref ro, .ref tp, .int 0, .ref cd, .ref sr, .int 1, .int 0, .int 0, .ref ir, .ref ih, .ref ss, .ref sq, .ref ce, .ref lw, .int 40, .int 40, .int 0, .int 0, .ref wo, .ref he, .int 0, .int 0, .int 5, .ref sk, .ref na, .ref kp, .int 0, .int 0, .int 0, .int 0, .ref gb, .ref go, .ref fa, .ref ga, .int 0, .int 0, .ref vo]))] H := hP
  have hD : va_D A [(h0, .inr (6, [.int 0, .ref kd, .ref mo, .ref st, .int 0, .ref ro, .ref tp, .int 0, .ref cd, .ref sr, .int 1, .int 0, .int 0, .ref ir, .ref ih, .ref ss, .ref sq, .ref ce, .ref lw, .int 40, .int 40, .int 0, .int 0, .ref wo, .ref he, .int 0, .int 0, .int 5, .ref sk, .ref na, .ref kp, .int 0, .int 0, .int 0, .int 0, .ref gb, .ref go, .ref fa, .ref ga, .int 0, .int 0, .ref vo]))] := hD
  have w_2 : r_1 = 0 := w_2
  subst w_2
  refine lv_if_eq (tgt := 16) hx hb dX6_hear_5 (by decide) (fun c_3 => ?_) (fun c_3 => ?_)
  rotate_left
  · exact absurd (by decide) c_3
  refine lv_bipush (v := -5) hx hb dX6_hear_16 (by decide) ?_
  have hpost : (fun (r : Int32) (u : Unit) => match u with | _ => r = -5) (-5) () := pp_X6_hear_0_1 v0 v1 v2 v3 
  exact W.iret (v := (-5)) hx hb hr (fun t ht hW => ⟨⟨(-5), (), rfl, hpost, trivial⟩, hS.F ht⟩) hS.2.2 dX6_hear_18
theorem pp_X6_fewest_0_1 (v0 : Int32) (v1 : Int32) : ((-5) : Int32) = -5 := by
  first
    | rfl
    | exact bz_pos (by (first | omega | (simp only [Int32.lt_iff_toInt_lt, Int32.le_iff_toInt_le, ← Int32.toInt_inj, Int32.reduceToInt] at * <;> omega)))
    | exact bz_neg (by (first | omega | (simp only [Int32.lt_iff_toInt_lt, Int32.le_iff_toInt_le, ← Int32.toInt_inj, Int32.reduceToInt] at * <;> omega)))
    | ((repeat' split) <;> first | rfl | assumption | (symm; assumption) | (exfalso; (first | omega | (simp only [Int32.lt_iff_toInt_lt, Int32.le_iff_toInt_le, ← Int32.toInt_inj, Int32.reduceToInt] at * <;> omega))))
abbrev q_X6_fewest_0 (G : gG) (h0 kd mo st ro tp cd sr ir ih ss sq ce lw wo he sk na kp gb go fa ga vo : Nat) (v0 : Int32) (v1 : Int32) (A : Nat → Prop) : Array Value → State → Outcome → State → Prop := va_Qi (fun (r : Int32) (u : Unit) => match u with | _ => r = -5) (fun (u : Unit) t => match u with | _ => True) A
set_option maxHeartbeats 4000000 in
set_option maxRecDepth 100000 in
theorem c_X6_fewest_0 (l : Launch) (G : gG) (h0 kd mo st ro tp cd sr ir ih ss sq ce lw wo he sk na kp gb go fa ga vo : Nat) (v0 : Int32) (v1 : Int32) (sz : Nat) : Met l yX6_fewest wsX6_fewest ({ frames := 2, cells := 0, slots := 0, locals := 43 }) (gPre G [.ref h0, .int v0, .int v1] [(h0, .inr (6, [.int 0, .ref kd, .ref mo, .ref st, .int 0, .ref ro, .ref tp, .int 0, .ref cd, .ref sr, .int 1, .int 0, .int 0, .ref ir, .ref ih, .ref ss, .ref sq, .ref ce, .ref lw, .int 40, .int 40, .int 0, .int 0, .ref wo, .ref he, .int 0, .int 0, .int 5, .ref sk, .ref na, .ref kp, .int 0, .int 0, .int 0, .int 0, .ref gb, .ref go, .ref fa, .ref ga, .int 0, .int 0, .ref vo]))] sz) (q_X6_fewest_0 G h0 kd mo st ro tp cd sr ir ih ss sq ce lw wo he sk na kp gb go fa ga vo v0 v1 (va_A [(h0, .inr (6, [.int 0, .ref kd, .ref mo, .ref st, .int 0, .ref ro, .ref tp, .int 0, .ref cd, .ref sr, .int 1, .int 0, .int 0, .ref ir, .ref ih, .ref ss, .ref sq, .ref ce, .ref lw, .int 40, .int 40, .int 0, .int 0, .ref wo, .ref he, .int 0, .int 0, .int 5, .ref sk, .ref na, .ref kp, .int 0, .int 0, .int 0, .int 0, .ref gb, .ref go, .ref fa, .ref ga, .int 0, .int 0, .ref vo]))] sz)) 0 0 (va_A [(h0, .inr (6, [.int 0, .ref kd, .ref mo, .ref st, .int 0, .ref ro, .ref tp, .int 0, .ref cd, .ref sr, .int 1, .int 0, .int 0, .ref ir, .ref ih, .ref ss, .ref sq, .ref ce, .ref lw, .int 40, .int 40, .int 0, .int 0, .ref wo, .ref he, .int 0, .int 0, .int 5, .ref sk, .ref na, .ref kp, .int 0, .int 0, .int 0, .int 0, .ref gb, .ref go, .ref fa, .ref ga, .int 0, .int 0, .ref vo]))] sz) := by
  refine Met.ofW (cc := cX6_fewest) (maxL := 4) (ret := (some .int)) (by decide) rfl ?_
  intro p e s m args below meth c s₁ B hml hv
  obtain ⟨rfl, hsz, hP, hK, hD0⟩ := hv
  have hx := B.exec
  have hb := B.bytes
  have hr := B.returns
  have hts := atoms_spec (ws := wsX6_fewest) B.pre
  have hown : s.vm.findClass RX6 = some m.cls := findClass_of_methodNamed B.named
  have hlocks := B.notSynchronized
  subst hsz
  have hD := hD0.self (sz := s.heap.size)
  generalize hAe : va_A [(h0, .inr (6, [.int 0, .ref kd, .ref mo, .ref st, .int 0, .ref ro, .ref tp, .int 0, .ref cd, .ref sr, .int 1, .int 0, .int 0, .ref ir, .ref ih, .ref ss, .ref sq, .ref ce, .ref lw, .int 40, .int 40, .int 0, .int 0, .ref wo, .ref he, .int 0, .int 0, .int 5, .ref sk, .ref na, .ref kp, .int 0, .int 0, .int 0, .int 0, .ref gb, .ref go, .ref fa, .ref ga, .int 0, .int 0, .ref vo]))] s.heap.size = A at hD ⊢
  have hA : ∀ q : Nat, s.heap.size ≤ q → A q := fun q h => by rw [← hAe]; exact Or.inr h
  have hS : va_S A s.heap s.heap [] := va_S.rf
  have hP : va_P G.1 vwCl [(h0, .inr (6, [.int 0, .ref kd, .ref mo, .ref st, .int 0, .ref ro, .ref tp, .int 0, .ref cd, .ref sr, .int 1, .int 0, .int 0, .ref ir, .ref ih, .ref ss, .ref sq, .ref ce, .ref lw, .int 40, .int 40, .int 0, .int 0, .ref wo, .ref he, .int 0, .int 0, .int 5, .ref sk, .ref na, .ref kp, .int 0, .int 0, .int 0, .int 0, .ref gb, .ref go, .ref fa, .ref ga, .int 0, .int 0, .ref vo]))] s.heap := hP
  have hD : va_D A [(h0, .inr (6, [.int 0, .ref kd, .ref mo, .ref st, .int 0, .ref ro, .ref tp, .int 0, .ref cd, .ref sr, .int 1, .int 0, .int 0, .ref ir, .ref ih, .ref ss, .ref sq, .ref ce, .ref lw, .int 40, .int 40, .int 0, .int 0, .ref wo, .ref he, .int 0, .int 0, .int 5, .ref sk, .ref na, .ref kp, .int 0, .int 0, .int 0, .int 0, .ref gb, .ref go, .ref fa, .ref ga, .int 0, .int 0, .ref vo]))] := hD
  have hl := lv_entry ([.ref h0, .int v0, .int v1]) (n := 4) (Nat.le_of_ble_eq_true rfl)
  rw [lg_entry_eq]
  generalize (lg_sl ([.ref h0, .int v0, .int v1]) ++ List.replicate (4 - (lg_sl ([.ref h0, .int v0, .int v1])).length) Slot.unset).toArray = ls at hl ⊢
  have hl : lv_has ls 4 [(0, .ref h0), (1, .int v0), (2, .int v1)] := hl
  refine lv_aload_n hx hb dX6_fewest_0 rfl (lv_at hl 0 rfl) ?_
  refine lv_iload_n hx hb dX6_fewest_1 rfl (lv_at hl 1 rfl) ?_
  have hPc : va_P G.1 vwCl [(h0, .inr (6, [.int 0, .ref kd, .ref mo, .ref st, .int 0, .ref ro, .ref tp, .int 0, .ref cd, .ref sr, .int 1, .int 0, .int 0, .ref ir, .ref ih, .ref ss, .ref sq, .ref ce, .ref lw, .int 40, .int 40, .int 0, .int 0, .ref wo, .ref he, .int 0, .int 0, .int 5, .ref sk, .ref na, .ref kp, .int 0, .int 0, .int 0, .int 0, .ref gb, .ref go, .ref fa, .ref ga, .int 0, .int 0, .ref vo]))] s.heap := hP.sub [0] rfl
  have hDc : va_D A [(h0, .inr (6, [.int 0, .ref kd, .ref mo, .ref st, .int 0, .ref ro, .ref tp, .int 0, .ref cd, .ref sr, .int 1, .int 0, .int 0, .ref ir, .ref ih, .ref ss, .ref sq, .ref ce, .ref lw, .int 40, .int 40, .int 0, .int 0, .ref wo, .ref he, .int 0, .int 0, .int 5, .ref sk, .ref na, .ref kp, .int 0, .int 0, .int 0, .int 0, .ref gb, .ref go, .ref fa, .ref ga, .int 0, .int 0, .ref vo]))] := hD.sub [0] (by decide) rfl
  have hFc := va_free (wc := [(h0, .inr (6, [.int 0, .ref kd, .ref mo, .ref st, .int 0, .ref ro, .ref tp, .int 0, .ref cd, .ref sr, .int 1, .int 0, .int 0, .ref ir, .ref ih, .ref ss, .ref sq, .ref ce, .ref lw, .int 40, .int 40, .int 0, .int 0, .ref wo, .ref he, .int 0, .int 0, .int 5, .ref sk, .ref na, .ref kp, .int 0, .int 0, .int 0, .int 0, .ref gb, .ref go, .ref fa, .ref ga, .int 0, .int 0, .ref vo]))]) hD hS hA [0] rfl
  refine va_calli (va_runV (As := [.int v0]) (rest := []) ⟨hx, hb, hml, hown, hts⟩ (c_X6_isJudge_0 l G h0 kd mo st ro tp cd sr ir ih ss sq ce lw wo he sk na kp gb go fa ga vo v0 s.heap.size) (cwV 1 hts gX6_fewest_X6_isJudge rfl rfl rfl (by decide +kernel) ⟨Nat.le_of_ble_eq_true rfl, Nat.le_of_ble_eq_true rfl⟩) ⟨gPre_blind, va_recv hK hPc (ci := 6) (q0 := 0) rfl rfl, fun U hU hW => gPre_of hU hW hK hPc hDc⟩ rfl rfl hl.1 rfl (lv_room (Nat.le_of_ble_eq_true rfl)) dX6_fewest_2 ⟨Nat.le_of_ble_eq_true rfl, Nat.le_of_ble_eq_true rfl⟩) hS (fun q _ h => hFc q h) hFc (fun r_1 u t H locs ht hvm w_2 hB hz1 hk1 hS => ?_)
  obtain ⟨hP1, hK1, hD1⟩ := hB
  rw [ht] at hP1
  have hP1 : va_P G.1 vwCl [(h0, .inr (6, [.int 0, .ref kd, .ref mo, .ref st, .int 0, .ref ro, .ref tp, .int 0, .ref cd, .ref sr, .int 1, .int 0, .int 0, .ref ir, .ref ih, .ref ss, .ref sq, .ref ce, .ref lw, .int 40, .int 40, .int 0, .int 0, .ref wo, .ref he, .int 0, .int 0, .int 5, .ref sk, .ref na, .ref kp, .int 0, .int 0, .int 0, .int 0, .ref gb, .ref go, .ref fa, .ref ga, .int 0, .int 0, .ref vo]))] H := hP1
  have hD1 : va_D (va_A [(h0, .inr (6, [.int 0, .ref kd, .ref mo, .ref st, .int 0, .ref ro, .ref tp, .int 0, .ref cd, .ref sr, .int 1, .int 0, .int 0, .ref ir, .ref ih, .ref ss, .ref sq, .ref ce, .ref lw, .int 40, .int 40, .int 0, .int 0, .ref wo, .ref he, .int 0, .int 0, .int 5, .ref sk, .ref na, .ref kp, .int 0, .int 0, .int 0, .int 0, .ref gb, .ref go, .ref fa, .ref ga, .int 0, .int 0, .ref vo]))] s.heap.size) [(h0, .inr (6, [.int 0, .ref kd, .ref mo, .ref st, .int 0, .ref ro, .ref tp, .int 0, .ref cd, .ref sr, .int 1, .int 0, .int 0, .ref ir, .ref ih, .ref ss, .ref sq, .ref ce, .ref lw, .int 40, .int 40, .int 0, .int 0, .ref wo, .ref he, .int 0, .int 0, .int 5, .ref sk, .ref na, .ref kp, .int 0, .int 0, .int 0, .int 0, .ref gb, .ref go, .ref fa, .ref ga, .int 0, .int 0, .ref vo]))] := hD1
  have w_2 : r_1 = 0 := w_2
  obtain ⟨hP, hD⟩ := va_join (wr := []) (w1 := [(h0, .inr (6, [.int 0, .ref kd, .ref mo, .ref st, .int 0, .ref ro, .ref tp, .int 0, .ref cd, .ref sr, .int 1, .int 0, .int 0, .ref ir, .ref ih, .ref ss, .ref sq, .ref ce, .ref lw, .int 40, .int 40, .int 0, .int 0, .ref wo, .ref he, .int 0, .int 0, .int 5, .ref sk, .ref na, .ref kp, .int 0, .int 0, .int 0, .int 0, .ref gb, .ref go, .ref fa, .ref ga, .int 0, .int 0, .ref vo]))]) hP hD [0] [] rfl rfl (by decide) (by decide) hk1 hFc hP1 hD1
  have hP : va_P G.1 vwCl [(h0, .inr (6, [.int 0, .ref kd, .ref mo, .ref st, .int 0, .ref ro, .ref tp, .int 0, .ref cd, .ref sr, .int 1, .int 0, .int 0, .ref ir, .ref ih, .ref ss, .ref sq, .ref ce, .ref lw, .int 40, .int 40, .int 0, .int 0, .ref wo, .ref he, .int 0, .int 0, .int 5, .ref sk, .ref na, .ref kp, .int 0, .int 0, .int 0, .int 0, .ref gb, .ref go, .ref fa, .ref ga, .int 0, .int 0, .ref vo]))] H := hP
  have hD : va_D A [(h0, .inr (6, [.int 0, .ref kd, .ref mo, .ref st, .int 0, .ref ro, .ref tp, .int 0, .ref cd, .ref sr, .int 1, .int 0, .int 0, .ref ir, .ref ih, .ref ss, .ref sq, .ref ce, .ref lw, .int 40, .int 40, .int 0, .int 0, .ref wo, .ref he, .int 0, .int 0, .int 5, .ref sk, .ref na, .ref kp, .int 0, .int 0, .int 0, .int 0, .ref gb, .ref go, .ref fa, .ref ga, .int 0, .int 0, .ref vo]))] := hD
  have w_2 : r_1 = 0 := w_2
  subst w_2
  refine lv_if_eq (tgt := 16) hx hb dX6_fewest_5 (by decide) (fun c_3 => ?_) (fun c_3 => ?_)
  rotate_left
  · exact absurd (by decide) c_3
  refine lv_bipush (v := -5) hx hb dX6_fewest_16 (by decide) ?_
  have hpost : (fun (r : Int32) (u : Unit) => match u with | _ => r = -5) (-5) () := pp_X6_fewest_0_1 v0 v1 
  exact W.iret (v := (-5)) hx hb hr (fun t ht hW => ⟨⟨(-5), (), rfl, hpost, trivial⟩, hS.F ht⟩) hS.2.2 dX6_fewest_18
theorem pp_X6_sand_0_1 (v0 : Int32) (v1 : Int32) : ((-5) : Int32) = -5 := by
  first
    | rfl
    | exact bz_pos (by (first | omega | (simp only [Int32.lt_iff_toInt_lt, Int32.le_iff_toInt_le, ← Int32.toInt_inj, Int32.reduceToInt] at * <;> omega)))
    | exact bz_neg (by (first | omega | (simp only [Int32.lt_iff_toInt_lt, Int32.le_iff_toInt_le, ← Int32.toInt_inj, Int32.reduceToInt] at * <;> omega)))
    | ((repeat' split) <;> first | rfl | assumption | (symm; assumption) | (exfalso; (first | omega | (simp only [Int32.lt_iff_toInt_lt, Int32.le_iff_toInt_le, ← Int32.toInt_inj, Int32.reduceToInt] at * <;> omega))))
abbrev q_X6_sand_0 (G : gG) (h0 kd mo st ro tp cd sr ir ih ss sq ce lw wo he sk na kp gb go fa ga vo : Nat) (v0 : Int32) (v1 : Int32) (A : Nat → Prop) : Array Value → State → Outcome → State → Prop := va_Qi (fun (r : Int32) (u : Unit) => match u with | _ => r = -5) (fun (u : Unit) t => match u with | _ => True) A
set_option maxHeartbeats 4000000 in
set_option maxRecDepth 100000 in
theorem c_X6_sand_0 (l : Launch) (G : gG) (h0 kd mo st ro tp cd sr ir ih ss sq ce lw wo he sk na kp gb go fa ga vo : Nat) (v0 : Int32) (v1 : Int32) (sz : Nat) : Met l yX6_sand wsX6_sand ({ frames := 2, cells := 0, slots := 0, locals := 43 }) (gPre G [.ref h0, .int v0, .int v1] [(h0, .inr (6, [.int 0, .ref kd, .ref mo, .ref st, .int 0, .ref ro, .ref tp, .int 0, .ref cd, .ref sr, .int 1, .int 0, .int 0, .ref ir, .ref ih, .ref ss, .ref sq, .ref ce, .ref lw, .int 40, .int 40, .int 0, .int 0, .ref wo, .ref he, .int 0, .int 0, .int 5, .ref sk, .ref na, .ref kp, .int 0, .int 0, .int 0, .int 0, .ref gb, .ref go, .ref fa, .ref ga, .int 0, .int 0, .ref vo]))] sz) (q_X6_sand_0 G h0 kd mo st ro tp cd sr ir ih ss sq ce lw wo he sk na kp gb go fa ga vo v0 v1 (va_A [(h0, .inr (6, [.int 0, .ref kd, .ref mo, .ref st, .int 0, .ref ro, .ref tp, .int 0, .ref cd, .ref sr, .int 1, .int 0, .int 0, .ref ir, .ref ih, .ref ss, .ref sq, .ref ce, .ref lw, .int 40, .int 40, .int 0, .int 0, .ref wo, .ref he, .int 0, .int 0, .int 5, .ref sk, .ref na, .ref kp, .int 0, .int 0, .int 0, .int 0, .ref gb, .ref go, .ref fa, .ref ga, .int 0, .int 0, .ref vo]))] sz)) 0 0 (va_A [(h0, .inr (6, [.int 0, .ref kd, .ref mo, .ref st, .int 0, .ref ro, .ref tp, .int 0, .ref cd, .ref sr, .int 1, .int 0, .int 0, .ref ir, .ref ih, .ref ss, .ref sq, .ref ce, .ref lw, .int 40, .int 40, .int 0, .int 0, .ref wo, .ref he, .int 0, .int 0, .int 5, .ref sk, .ref na, .ref kp, .int 0, .int 0, .int 0, .int 0, .ref gb, .ref go, .ref fa, .ref ga, .int 0, .int 0, .ref vo]))] sz) := by
  refine Met.ofW (cc := cX6_sand) (maxL := 3) (ret := (some .int)) (by decide) rfl ?_
  intro p e s m args below meth c s₁ B hml hv
  obtain ⟨rfl, hsz, hP, hK, hD0⟩ := hv
  have hx := B.exec
  have hb := B.bytes
  have hr := B.returns
  have hts := atoms_spec (ws := wsX6_sand) B.pre
  have hown : s.vm.findClass RX6 = some m.cls := findClass_of_methodNamed B.named
  have hlocks := B.notSynchronized
  subst hsz
  have hD := hD0.self (sz := s.heap.size)
  generalize hAe : va_A [(h0, .inr (6, [.int 0, .ref kd, .ref mo, .ref st, .int 0, .ref ro, .ref tp, .int 0, .ref cd, .ref sr, .int 1, .int 0, .int 0, .ref ir, .ref ih, .ref ss, .ref sq, .ref ce, .ref lw, .int 40, .int 40, .int 0, .int 0, .ref wo, .ref he, .int 0, .int 0, .int 5, .ref sk, .ref na, .ref kp, .int 0, .int 0, .int 0, .int 0, .ref gb, .ref go, .ref fa, .ref ga, .int 0, .int 0, .ref vo]))] s.heap.size = A at hD ⊢
  have hA : ∀ q : Nat, s.heap.size ≤ q → A q := fun q h => by rw [← hAe]; exact Or.inr h
  have hS : va_S A s.heap s.heap [] := va_S.rf
  have hP : va_P G.1 vwCl [(h0, .inr (6, [.int 0, .ref kd, .ref mo, .ref st, .int 0, .ref ro, .ref tp, .int 0, .ref cd, .ref sr, .int 1, .int 0, .int 0, .ref ir, .ref ih, .ref ss, .ref sq, .ref ce, .ref lw, .int 40, .int 40, .int 0, .int 0, .ref wo, .ref he, .int 0, .int 0, .int 5, .ref sk, .ref na, .ref kp, .int 0, .int 0, .int 0, .int 0, .ref gb, .ref go, .ref fa, .ref ga, .int 0, .int 0, .ref vo]))] s.heap := hP
  have hD : va_D A [(h0, .inr (6, [.int 0, .ref kd, .ref mo, .ref st, .int 0, .ref ro, .ref tp, .int 0, .ref cd, .ref sr, .int 1, .int 0, .int 0, .ref ir, .ref ih, .ref ss, .ref sq, .ref ce, .ref lw, .int 40, .int 40, .int 0, .int 0, .ref wo, .ref he, .int 0, .int 0, .int 5, .ref sk, .ref na, .ref kp, .int 0, .int 0, .int 0, .int 0, .ref gb, .ref go, .ref fa, .ref ga, .int 0, .int 0, .ref vo]))] := hD
  have hl := lv_entry ([.ref h0, .int v0, .int v1]) (n := 3) (Nat.le_of_ble_eq_true rfl)
  rw [lg_entry_eq]
  generalize (lg_sl ([.ref h0, .int v0, .int v1]) ++ List.replicate (3 - (lg_sl ([.ref h0, .int v0, .int v1])).length) Slot.unset).toArray = ls at hl ⊢
  have hl : lv_has ls 3 [(0, .ref h0), (1, .int v0), (2, .int v1)] := hl
  refine lv_aload_n hx hb dX6_sand_0 rfl (lv_at hl 0 rfl) ?_
  refine lv_iload_n hx hb dX6_sand_1 rfl (lv_at hl 1 rfl) ?_
  have hPc : va_P G.1 vwCl [(h0, .inr (6, [.int 0, .ref kd, .ref mo, .ref st, .int 0, .ref ro, .ref tp, .int 0, .ref cd, .ref sr, .int 1, .int 0, .int 0, .ref ir, .ref ih, .ref ss, .ref sq, .ref ce, .ref lw, .int 40, .int 40, .int 0, .int 0, .ref wo, .ref he, .int 0, .int 0, .int 5, .ref sk, .ref na, .ref kp, .int 0, .int 0, .int 0, .int 0, .ref gb, .ref go, .ref fa, .ref ga, .int 0, .int 0, .ref vo]))] s.heap := hP.sub [0] rfl
  have hDc : va_D A [(h0, .inr (6, [.int 0, .ref kd, .ref mo, .ref st, .int 0, .ref ro, .ref tp, .int 0, .ref cd, .ref sr, .int 1, .int 0, .int 0, .ref ir, .ref ih, .ref ss, .ref sq, .ref ce, .ref lw, .int 40, .int 40, .int 0, .int 0, .ref wo, .ref he, .int 0, .int 0, .int 5, .ref sk, .ref na, .ref kp, .int 0, .int 0, .int 0, .int 0, .ref gb, .ref go, .ref fa, .ref ga, .int 0, .int 0, .ref vo]))] := hD.sub [0] (by decide) rfl
  have hFc := va_free (wc := [(h0, .inr (6, [.int 0, .ref kd, .ref mo, .ref st, .int 0, .ref ro, .ref tp, .int 0, .ref cd, .ref sr, .int 1, .int 0, .int 0, .ref ir, .ref ih, .ref ss, .ref sq, .ref ce, .ref lw, .int 40, .int 40, .int 0, .int 0, .ref wo, .ref he, .int 0, .int 0, .int 5, .ref sk, .ref na, .ref kp, .int 0, .int 0, .int 0, .int 0, .ref gb, .ref go, .ref fa, .ref ga, .int 0, .int 0, .ref vo]))]) hD hS hA [0] rfl
  refine va_calli (va_runV (As := [.int v0]) (rest := []) ⟨hx, hb, hml, hown, hts⟩ (c_X6_isJudge_0 l G h0 kd mo st ro tp cd sr ir ih ss sq ce lw wo he sk na kp gb go fa ga vo v0 s.heap.size) (cwV 1 hts gX6_sand_X6_isJudge rfl rfl rfl (by decide +kernel) ⟨Nat.le_of_ble_eq_true rfl, Nat.le_of_ble_eq_true rfl⟩) ⟨gPre_blind, va_recv hK hPc (ci := 6) (q0 := 0) rfl rfl, fun U hU hW => gPre_of hU hW hK hPc hDc⟩ rfl rfl hl.1 rfl (lv_room (Nat.le_of_ble_eq_true rfl)) dX6_sand_2 ⟨Nat.le_of_ble_eq_true rfl, Nat.le_of_ble_eq_true rfl⟩) hS (fun q _ h => hFc q h) hFc (fun r_1 u t H locs ht hvm w_2 hB hz1 hk1 hS => ?_)
  obtain ⟨hP1, hK1, hD1⟩ := hB
  rw [ht] at hP1
  have hP1 : va_P G.1 vwCl [(h0, .inr (6, [.int 0, .ref kd, .ref mo, .ref st, .int 0, .ref ro, .ref tp, .int 0, .ref cd, .ref sr, .int 1, .int 0, .int 0, .ref ir, .ref ih, .ref ss, .ref sq, .ref ce, .ref lw, .int 40, .int 40, .int 0, .int 0, .ref wo, .ref he, .int 0, .int 0, .int 5, .ref sk, .ref na, .ref kp, .int 0, .int 0, .int 0, .int 0, .ref gb, .ref go, .ref fa, .ref ga, .int 0, .int 0, .ref vo]))] H := hP1
  have hD1 : va_D (va_A [(h0, .inr (6, [.int 0, .ref kd, .ref mo, .ref st, .int 0, .ref ro, .ref tp, .int 0, .ref cd, .ref sr, .int 1, .int 0, .int 0, .ref ir, .ref ih, .ref ss, .ref sq, .ref ce, .ref lw, .int 40, .int 40, .int 0, .int 0, .ref wo, .ref he, .int 0, .int 0, .int 5, .ref sk, .ref na, .ref kp, .int 0, .int 0, .int 0, .int 0, .ref gb, .ref go, .ref fa, .ref ga, .int 0, .int 0, .ref vo]))] s.heap.size) [(h0, .inr (6, [.int 0, .ref kd, .ref mo, .ref st, .int 0, .ref ro, .ref tp, .int 0, .ref cd, .ref sr, .int 1, .int 0, .int 0, .ref ir, .ref ih, .ref ss, .ref sq, .ref ce, .ref lw, .int 40, .int 40, .int 0, .int 0, .ref wo, .ref he, .int 0, .int 0, .int 5, .ref sk, .ref na, .ref kp, .int 0, .int 0, .int 0, .int 0, .ref gb, .ref go, .ref fa, .ref ga, .int 0, .int 0, .ref vo]))] := hD1
  have w_2 : r_1 = 0 := w_2
  obtain ⟨hP, hD⟩ := va_join (wr := []) (w1 := [(h0, .inr (6, [.int 0, .ref kd, .ref mo, .ref st, .int 0, .ref ro, .ref tp, .int 0, .ref cd, .ref sr, .int 1, .int 0, .int 0, .ref ir, .ref ih, .ref ss, .ref sq, .ref ce, .ref lw, .int 40, .int 40, .int 0, .int 0, .ref wo, .ref he, .int 0, .int 0, .int 5, .ref sk, .ref na, .ref kp, .int 0, .int 0, .int 0, .int 0, .ref gb, .ref go, .ref fa, .ref ga, .int 0, .int 0, .ref vo]))]) hP hD [0] [] rfl rfl (by decide) (by decide) hk1 hFc hP1 hD1
  have hP : va_P G.1 vwCl [(h0, .inr (6, [.int 0, .ref kd, .ref mo, .ref st, .int 0, .ref ro, .ref tp, .int 0, .ref cd, .ref sr, .int 1, .int 0, .int 0, .ref ir, .ref ih, .ref ss, .ref sq, .ref ce, .ref lw, .int 40, .int 40, .int 0, .int 0, .ref wo, .ref he, .int 0, .int 0, .int 5, .ref sk, .ref na, .ref kp, .int 0, .int 0, .int 0, .int 0, .ref gb, .ref go, .ref fa, .ref ga, .int 0, .int 0, .ref vo]))] H := hP
  have hD : va_D A [(h0, .inr (6, [.int 0, .ref kd, .ref mo, .ref st, .int 0, .ref ro, .ref tp, .int 0, .ref cd, .ref sr, .int 1, .int 0, .int 0, .ref ir, .ref ih, .ref ss, .ref sq, .ref ce, .ref lw, .int 40, .int 40, .int 0, .int 0, .ref wo, .ref he, .int 0, .int 0, .int 5, .ref sk, .ref na, .ref kp, .int 0, .int 0, .int 0, .int 0, .ref gb, .ref go, .ref fa, .ref ga, .int 0, .int 0, .ref vo]))] := hD
  have w_2 : r_1 = 0 := w_2
  subst w_2
  refine lv_if_eq (tgt := 25) hx hb dX6_sand_5 (by decide) (fun c_3 => ?_) (fun c_3 => ?_)
  rotate_left
  · exact absurd (by decide) c_3
  refine lv_bipush (v := -5) hx hb dX6_sand_25 (by decide) ?_
  have hpost : (fun (r : Int32) (u : Unit) => match u with | _ => r = -5) (-5) () := pp_X6_sand_0_1 v0 v1 
  exact W.iret (v := (-5)) hx hb hr (fun t ht hW => ⟨⟨(-5), (), rfl, hpost, trivial⟩, hS.F ht⟩) hS.2.2 dX6_sand_27
theorem pp_X6_unlike_0_1 (v0 : Int32) (v1 : Int32) (v2 : Int32) : ((-5) : Int32) = -5 := by
  first
    | rfl
    | exact bz_pos (by (first | omega | (simp only [Int32.lt_iff_toInt_lt, Int32.le_iff_toInt_le, ← Int32.toInt_inj, Int32.reduceToInt] at * <;> omega)))
    | exact bz_neg (by (first | omega | (simp only [Int32.lt_iff_toInt_lt, Int32.le_iff_toInt_le, ← Int32.toInt_inj, Int32.reduceToInt] at * <;> omega)))
    | ((repeat' split) <;> first | rfl | assumption | (symm; assumption) | (exfalso; (first | omega | (simp only [Int32.lt_iff_toInt_lt, Int32.le_iff_toInt_le, ← Int32.toInt_inj, Int32.reduceToInt] at * <;> omega))))
abbrev q_X6_unlike_0 (G : gG) (h0 kd mo st ro tp cd sr ir ih ss sq ce lw wo he sk na kp gb go fa ga vo : Nat) (v0 : Int32) (v1 : Int32) (v2 : Int32) (A : Nat → Prop) : Array Value → State → Outcome → State → Prop := va_Qi (fun (r : Int32) (u : Unit) => match u with | _ => r = -5) (fun (u : Unit) t => match u with | _ => True) A
set_option maxHeartbeats 4000000 in
set_option maxRecDepth 100000 in
theorem c_X6_unlike_0 (l : Launch) (G : gG) (h0 kd mo st ro tp cd sr ir ih ss sq ce lw wo he sk na kp gb go fa ga vo : Nat) (v0 : Int32) (v1 : Int32) (v2 : Int32) (sz : Nat) : Met l yX6_unlike wsX6_unlike ({ frames := 2, cells := 0, slots := 0, locals := 43 }) (gPre G [.ref h0, .int v0, .int v1, .int v2] [(h0, .inr (6, [.int 0, .ref kd, .ref mo, .ref st, .int 0, .ref ro, .ref tp, .int 0, .ref cd, .ref sr, .int 1, .int 0, .int 0, .ref ir, .ref ih, .ref ss, .ref sq, .ref ce, .ref lw, .int 40, .int 40, .int 0, .int 0, .ref wo, .ref he, .int 0, .int 0, .int 5, .ref sk, .ref na, .ref kp, .int 0, .int 0, .int 0, .int 0, .ref gb, .ref go, .ref fa, .ref ga, .int 0, .int 0, .ref vo]))] sz) (q_X6_unlike_0 G h0 kd mo st ro tp cd sr ir ih ss sq ce lw wo he sk na kp gb go fa ga vo v0 v1 v2 (va_A [(h0, .inr (6, [.int 0, .ref kd, .ref mo, .ref st, .int 0, .ref ro, .ref tp, .int 0, .ref cd, .ref sr, .int 1, .int 0, .int 0, .ref ir, .ref ih, .ref ss, .ref sq, .ref ce, .ref lw, .int 40, .int 40, .int 0, .int 0, .ref wo, .ref he, .int 0, .int 0, .int 5, .ref sk, .ref na, .ref kp, .int 0, .int 0, .int 0, .int 0, .ref gb, .ref go, .ref fa, .ref ga, .int 0, .int 0, .ref vo]))] sz)) 0 0 (va_A [(h0, .inr (6, [.int 0, .ref kd, .ref mo, .ref st, .int 0, .ref ro, .ref tp, .int 0, .ref cd, .ref sr, .int 1, .int 0, .int 0, .ref ir, .ref ih, .ref ss, .ref sq, .ref ce, .ref lw, .int 40, .int 40, .int 0, .int 0, .ref wo, .ref he, .int 0, .int 0, .int 5, .ref sk, .ref na, .ref kp, .int 0, .int 0, .int 0, .int 0, .ref gb, .ref go, .ref fa, .ref ga, .int 0, .int 0, .ref vo]))] sz) := by
  refine Met.ofW (cc := cX6_unlike) (maxL := 5) (ret := (some .int)) (by decide) rfl ?_
  intro p e s m args below meth c s₁ B hml hv
  obtain ⟨rfl, hsz, hP, hK, hD0⟩ := hv
  have hx := B.exec
  have hb := B.bytes
  have hr := B.returns
  have hts := atoms_spec (ws := wsX6_unlike) B.pre
  have hown : s.vm.findClass RX6 = some m.cls := findClass_of_methodNamed B.named
  have hlocks := B.notSynchronized
  subst hsz
  have hD := hD0.self (sz := s.heap.size)
  generalize hAe : va_A [(h0, .inr (6, [.int 0, .ref kd, .ref mo, .ref st, .int 0, .ref ro, .ref tp, .int 0, .ref cd, .ref sr, .int 1, .int 0, .int 0, .ref ir, .ref ih, .ref ss, .ref sq, .ref ce, .ref lw, .int 40, .int 40, .int 0, .int 0, .ref wo, .ref he, .int 0, .int 0, .int 5, .ref sk, .ref na, .ref kp, .int 0, .int 0, .int 0, .int 0, .ref gb, .ref go, .ref fa, .ref ga, .int 0, .int 0, .ref vo]))] s.heap.size = A at hD ⊢
  have hA : ∀ q : Nat, s.heap.size ≤ q → A q := fun q h => by rw [← hAe]; exact Or.inr h
  have hS : va_S A s.heap s.heap [] := va_S.rf
  have hP : va_P G.1 vwCl [(h0, .inr (6, [.int 0, .ref kd, .ref mo, .ref st, .int 0, .ref ro, .ref tp, .int 0, .ref cd, .ref sr, .int 1, .int 0, .int 0, .ref ir, .ref ih, .ref ss, .ref sq, .ref ce, .ref lw, .int 40, .int 40, .int 0, .int 0, .ref wo, .ref he, .int 0, .int 0, .int 5, .ref sk, .ref na, .ref kp, .int 0, .int 0, .int 0, .int 0, .ref gb, .ref go, .ref fa, .ref ga, .int 0, .int 0, .ref vo]))] s.heap := hP
  have hD : va_D A [(h0, .inr (6, [.int 0, .ref kd, .ref mo, .ref st, .int 0, .ref ro, .ref tp, .int 0, .ref cd, .ref sr, .int 1, .int 0, .int 0, .ref ir, .ref ih, .ref ss, .ref sq, .ref ce, .ref lw, .int 40, .int 40, .int 0, .int 0, .ref wo, .ref he, .int 0, .int 0, .int 5, .ref sk, .ref na, .ref kp, .int 0, .int 0, .int 0, .int 0, .ref gb, .ref go, .ref fa, .ref ga, .int 0, .int 0, .ref vo]))] := hD
  have hl := lv_entry ([.ref h0, .int v0, .int v1, .int v2]) (n := 5) (Nat.le_of_ble_eq_true rfl)
  rw [lg_entry_eq]
  generalize (lg_sl ([.ref h0, .int v0, .int v1, .int v2]) ++ List.replicate (5 - (lg_sl ([.ref h0, .int v0, .int v1, .int v2])).length) Slot.unset).toArray = ls at hl ⊢
  have hl : lv_has ls 5 [(0, .ref h0), (1, .int v0), (2, .int v1), (3, .int v2)] := hl
  refine lv_aload_n hx hb dX6_unlike_0 rfl (lv_at hl 0 rfl) ?_
  refine lv_iload_n hx hb dX6_unlike_1 rfl (lv_at hl 1 rfl) ?_
  have hPc : va_P G.1 vwCl [(h0, .inr (6, [.int 0, .ref kd, .ref mo, .ref st, .int 0, .ref ro, .ref tp, .int 0, .ref cd, .ref sr, .int 1, .int 0, .int 0, .ref ir, .ref ih, .ref ss, .ref sq, .ref ce, .ref lw, .int 40, .int 40, .int 0, .int 0, .ref wo, .ref he, .int 0, .int 0, .int 5, .ref sk, .ref na, .ref kp, .int 0, .int 0, .int 0, .int 0, .ref gb, .ref go, .ref fa, .ref ga, .int 0, .int 0, .ref vo]))] s.heap := hP.sub [0] rfl
  have hDc : va_D A [(h0, .inr (6, [.int 0, .ref kd, .ref mo, .ref st, .int 0, .ref ro, .ref tp, .int 0, .ref cd, .ref sr, .int 1, .int 0, .int 0, .ref ir, .ref ih, .ref ss, .ref sq, .ref ce, .ref lw, .int 40, .int 40, .int 0, .int 0, .ref wo, .ref he, .int 0, .int 0, .int 5, .ref sk, .ref na, .ref kp, .int 0, .int 0, .int 0, .int 0, .ref gb, .ref go, .ref fa, .ref ga, .int 0, .int 0, .ref vo]))] := hD.sub [0] (by decide) rfl
  have hFc := va_free (wc := [(h0, .inr (6, [.int 0, .ref kd, .ref mo, .ref st, .int 0, .ref ro, .ref tp, .int 0, .ref cd, .ref sr, .int 1, .int 0, .int 0, .ref ir, .ref ih, .ref ss, .ref sq, .ref ce, .ref lw, .int 40, .int 40, .int 0, .int 0, .ref wo, .ref he, .int 0, .int 0, .int 5, .ref sk, .ref na, .ref kp, .int 0, .int 0, .int 0, .int 0, .ref gb, .ref go, .ref fa, .ref ga, .int 0, .int 0, .ref vo]))]) hD hS hA [0] rfl
  refine va_calli (va_runV (As := [.int v0]) (rest := []) ⟨hx, hb, hml, hown, hts⟩ (c_X6_isJudge_0 l G h0 kd mo st ro tp cd sr ir ih ss sq ce lw wo he sk na kp gb go fa ga vo v0 s.heap.size) (cwV 1 hts gX6_unlike_X6_isJudge rfl rfl rfl (by decide +kernel) ⟨Nat.le_of_ble_eq_true rfl, Nat.le_of_ble_eq_true rfl⟩) ⟨gPre_blind, va_recv hK hPc (ci := 6) (q0 := 0) rfl rfl, fun U hU hW => gPre_of hU hW hK hPc hDc⟩ rfl rfl hl.1 rfl (lv_room (Nat.le_of_ble_eq_true rfl)) dX6_unlike_2 ⟨Nat.le_of_ble_eq_true rfl, Nat.le_of_ble_eq_true rfl⟩) hS (fun q _ h => hFc q h) hFc (fun r_1 u t H locs ht hvm w_2 hB hz1 hk1 hS => ?_)
  obtain ⟨hP1, hK1, hD1⟩ := hB
  rw [ht] at hP1
  have hP1 : va_P G.1 vwCl [(h0, .inr (6, [.int 0, .ref kd, .ref mo, .ref st, .int 0, .ref ro, .ref tp, .int 0, .ref cd, .ref sr, .int 1, .int 0, .int 0, .ref ir, .ref ih, .ref ss, .ref sq, .ref ce, .ref lw, .int 40, .int 40, .int 0, .int 0, .ref wo, .ref he, .int 0, .int 0, .int 5, .ref sk, .ref na, .ref kp, .int 0, .int 0, .int 0, .int 0, .ref gb, .ref go, .ref fa, .ref ga, .int 0, .int 0, .ref vo]))] H := hP1
  have hD1 : va_D (va_A [(h0, .inr (6, [.int 0, .ref kd, .ref mo, .ref st, .int 0, .ref ro, .ref tp, .int 0, .ref cd, .ref sr, .int 1, .int 0, .int 0, .ref ir, .ref ih, .ref ss, .ref sq, .ref ce, .ref lw, .int 40, .int 40, .int 0, .int 0, .ref wo, .ref he, .int 0, .int 0, .int 5, .ref sk, .ref na, .ref kp, .int 0, .int 0, .int 0, .int 0, .ref gb, .ref go, .ref fa, .ref ga, .int 0, .int 0, .ref vo]))] s.heap.size) [(h0, .inr (6, [.int 0, .ref kd, .ref mo, .ref st, .int 0, .ref ro, .ref tp, .int 0, .ref cd, .ref sr, .int 1, .int 0, .int 0, .ref ir, .ref ih, .ref ss, .ref sq, .ref ce, .ref lw, .int 40, .int 40, .int 0, .int 0, .ref wo, .ref he, .int 0, .int 0, .int 5, .ref sk, .ref na, .ref kp, .int 0, .int 0, .int 0, .int 0, .ref gb, .ref go, .ref fa, .ref ga, .int 0, .int 0, .ref vo]))] := hD1
  have w_2 : r_1 = 0 := w_2
  obtain ⟨hP, hD⟩ := va_join (wr := []) (w1 := [(h0, .inr (6, [.int 0, .ref kd, .ref mo, .ref st, .int 0, .ref ro, .ref tp, .int 0, .ref cd, .ref sr, .int 1, .int 0, .int 0, .ref ir, .ref ih, .ref ss, .ref sq, .ref ce, .ref lw, .int 40, .int 40, .int 0, .int 0, .ref wo, .ref he, .int 0, .int 0, .int 5, .ref sk, .ref na, .ref kp, .int 0, .int 0, .int 0, .int 0, .ref gb, .ref go, .ref fa, .ref ga, .int 0, .int 0, .ref vo]))]) hP hD [0] [] rfl rfl (by decide) (by decide) hk1 hFc hP1 hD1
  have hP : va_P G.1 vwCl [(h0, .inr (6, [.int 0, .ref kd, .ref mo, .ref st, .int 0, .ref ro, .ref tp, .int 0, .ref cd, .ref sr, .int 1, .int 0, .int 0, .ref ir, .ref ih, .ref ss, .ref sq, .ref ce, .ref lw, .int 40, .int 40, .int 0, .int 0, .ref wo, .ref he, .int 0, .int 0, .int 5, .ref sk, .ref na, .ref kp, .int 0, .int 0, .int 0, .int 0, .ref gb, .ref go, .ref fa, .ref ga, .int 0, .int 0, .ref vo]))] H := hP
  have hD : va_D A [(h0, .inr (6, [.int 0, .ref kd, .ref mo, .ref st, .int 0, .ref ro, .ref tp, .int 0, .ref cd, .ref sr, .int 1, .int 0, .int 0, .ref ir, .ref ih, .ref ss, .ref sq, .ref ce, .ref lw, .int 40, .int 40, .int 0, .int 0, .ref wo, .ref he, .int 0, .int 0, .int 5, .ref sk, .ref na, .ref kp, .int 0, .int 0, .int 0, .int 0, .ref gb, .ref go, .ref fa, .ref ga, .int 0, .int 0, .ref vo]))] := hD
  have w_2 : r_1 = 0 := w_2
  subst w_2
  refine lv_if_eq (tgt := 29) hx hb dX6_unlike_5 (by decide) (fun c_3 => ?_) (fun c_3 => ?_)
  rotate_left
  · exact absurd (by decide) c_3
  refine lv_bipush (v := -5) hx hb dX6_unlike_29 (by decide) ?_
  have hpost : (fun (r : Int32) (u : Unit) => match u with | _ => r = -5) (-5) () := pp_X6_unlike_0_1 v0 v1 v2 
  exact W.iret (v := (-5)) hx hb hr (fun t ht hW => ⟨⟨(-5), (), rfl, hpost, trivial⟩, hS.F ht⟩) hS.2.2 dX6_unlike_31
theorem pp_X6_hardest_0_1 (v0 : Int32) (v1 : Int32) (n_5 : ¬ (0 ≤ v0 ∧ v0 ≤ 60)) : ((-2) : Int32) = (if (0 ≤ v0 ∧ v0 ≤ 60) ∧ (0 ≤ v1 ∧ v1 ≤ 1) then -1 else -2) := by
  first
    | rfl
    | exact bz_pos (by (first | omega | (simp only [Int32.lt_iff_toInt_lt, Int32.le_iff_toInt_le, ← Int32.toInt_inj, Int32.reduceToInt] at * <;> omega)))
    | exact bz_neg (by (first | omega | (simp only [Int32.lt_iff_toInt_lt, Int32.le_iff_toInt_le, ← Int32.toInt_inj, Int32.reduceToInt] at * <;> omega)))
    | ((repeat' split) <;> first | rfl | assumption | (symm; assumption) | (exfalso; (first | omega | (simp only [Int32.lt_iff_toInt_lt, Int32.le_iff_toInt_le, ← Int32.toInt_inj, Int32.reduceToInt] at * <;> omega))))
theorem pp_X6_hardest_0_2 (v0 : Int32) (v1 : Int32) (p_4 : 0 ≤ v0 ∧ v0 ≤ 60) (p_9 : 0 ≤ v1 ∧ v1 ≤ 1) (c_12 : ¬ (v1 = 0)) : ((-1) : Int32) = (if (0 ≤ v0 ∧ v0 ≤ 60) ∧ (0 ≤ v1 ∧ v1 ≤ 1) then -1 else -2) := by
  first
    | rfl
    | exact bz_pos (by (first | omega | (simp only [Int32.lt_iff_toInt_lt, Int32.le_iff_toInt_le, ← Int32.toInt_inj, Int32.reduceToInt] at * <;> omega)))
    | exact bz_neg (by (first | omega | (simp only [Int32.lt_iff_toInt_lt, Int32.le_iff_toInt_le, ← Int32.toInt_inj, Int32.reduceToInt] at * <;> omega)))
    | ((repeat' split) <;> first | rfl | assumption | (symm; assumption) | (exfalso; (first | omega | (simp only [Int32.lt_iff_toInt_lt, Int32.le_iff_toInt_le, ← Int32.toInt_inj, Int32.reduceToInt] at * <;> omega))))
theorem pp_X6_hardest_0_3 (v0 : Int32) (v1 : Int32) (p_4 : 0 ≤ v0 ∧ v0 ≤ 60) (p_9 : 0 ≤ v1 ∧ v1 ≤ 1) (c_12 : v1 = 0) : ((-1) : Int32) = (if (0 ≤ v0 ∧ v0 ≤ 60) ∧ (0 ≤ v1 ∧ v1 ≤ 1) then -1 else -2) := by
  first
    | rfl
    | exact bz_pos (by (first | omega | (simp only [Int32.lt_iff_toInt_lt, Int32.le_iff_toInt_le, ← Int32.toInt_inj, Int32.reduceToInt] at * <;> omega)))
    | exact bz_neg (by (first | omega | (simp only [Int32.lt_iff_toInt_lt, Int32.le_iff_toInt_le, ← Int32.toInt_inj, Int32.reduceToInt] at * <;> omega)))
    | ((repeat' split) <;> first | rfl | assumption | (symm; assumption) | (exfalso; (first | omega | (simp only [Int32.lt_iff_toInt_lt, Int32.le_iff_toInt_le, ← Int32.toInt_inj, Int32.reduceToInt] at * <;> omega))))
theorem pp_X6_hardest_0_4 (v0 : Int32) (v1 : Int32) (p_4 : 0 ≤ v0 ∧ v0 ≤ 60) (n_10 : ¬ (0 ≤ v1 ∧ v1 ≤ 1)) : ((-2) : Int32) = (if (0 ≤ v0 ∧ v0 ≤ 60) ∧ (0 ≤ v1 ∧ v1 ≤ 1) then -1 else -2) := by
  first
    | rfl
    | exact bz_pos (by (first | omega | (simp only [Int32.lt_iff_toInt_lt, Int32.le_iff_toInt_le, ← Int32.toInt_inj, Int32.reduceToInt] at * <;> omega)))
    | exact bz_neg (by (first | omega | (simp only [Int32.lt_iff_toInt_lt, Int32.le_iff_toInt_le, ← Int32.toInt_inj, Int32.reduceToInt] at * <;> omega)))
    | ((repeat' split) <;> first | rfl | assumption | (symm; assumption) | (exfalso; (first | omega | (simp only [Int32.lt_iff_toInt_lt, Int32.le_iff_toInt_le, ← Int32.toInt_inj, Int32.reduceToInt] at * <;> omega))))
abbrev q_X6_hardest_0 (G : gG) (h0 kd mo st ro tp cd sr ir ih ss sq ce lw wo he sk na kp gb go fa ga vo : Nat) (v0 : Int32) (v1 : Int32) (A : Nat → Prop) : Array Value → State → Outcome → State → Prop := va_Qi (fun (r : Int32) (u : Unit) => match u with | _ => r = (if (0 ≤ v0 ∧ v0 ≤ 60) ∧ (0 ≤ v1 ∧ v1 ≤ 1) then -1 else -2)) (fun (u : Unit) t => match u with | _ => True) A
set_option maxHeartbeats 4000000 in
set_option maxRecDepth 100000 in
theorem c_X6_hardest_0 (l : Launch) (G : gG) (h0 kd mo st ro tp cd sr ir ih ss sq ce lw wo he sk na kp gb go fa ga vo : Nat) (v0 : Int32) (v1 : Int32) (sz : Nat) : Met l yX6_hardest wsX6_hardest ({ frames := 2, cells := 0, slots := 0, locals := 42 }) (gPre G [.ref h0, .int v0, .int v1] [(h0, .inr (6, [.int 0, .ref kd, .ref mo, .ref st, .int 0, .ref ro, .ref tp, .int 0, .ref cd, .ref sr, .int 1, .int 0, .int 0, .ref ir, .ref ih, .ref ss, .ref sq, .ref ce, .ref lw, .int 40, .int 40, .int 0, .int 0, .ref wo, .ref he, .int 0, .int 0, .int 5, .ref sk, .ref na, .ref kp, .int 0, .int 0, .int 0, .int 0, .ref gb, .ref go, .ref fa, .ref ga, .int 0, .int 0, .ref vo]))] sz) (q_X6_hardest_0 G h0 kd mo st ro tp cd sr ir ih ss sq ce lw wo he sk na kp gb go fa ga vo v0 v1 (va_A [(h0, .inr (6, [.int 0, .ref kd, .ref mo, .ref st, .int 0, .ref ro, .ref tp, .int 0, .ref cd, .ref sr, .int 1, .int 0, .int 0, .ref ir, .ref ih, .ref ss, .ref sq, .ref ce, .ref lw, .int 40, .int 40, .int 0, .int 0, .ref wo, .ref he, .int 0, .int 0, .int 5, .ref sk, .ref na, .ref kp, .int 0, .int 0, .int 0, .int 0, .ref gb, .ref go, .ref fa, .ref ga, .int 0, .int 0, .ref vo]))] sz)) 0 0 (va_A [(h0, .inr (6, [.int 0, .ref kd, .ref mo, .ref st, .int 0, .ref ro, .ref tp, .int 0, .ref cd, .ref sr, .int 1, .int 0, .int 0, .ref ir, .ref ih, .ref ss, .ref sq, .ref ce, .ref lw, .int 40, .int 40, .int 0, .int 0, .ref wo, .ref he, .int 0, .int 0, .int 5, .ref sk, .ref na, .ref kp, .int 0, .int 0, .int 0, .int 0, .ref gb, .ref go, .ref fa, .ref ga, .int 0, .int 0, .ref vo]))] sz) := by
  refine Met.ofW (cc := cX6_hardest) (maxL := 8) (ret := (some .int)) (by decide) rfl ?_
  intro p e s m args below meth c s₁ B hml hv
  obtain ⟨rfl, hsz, hP, hK, hD0⟩ := hv
  have hx := B.exec
  have hb := B.bytes
  have hr := B.returns
  have hts := atoms_spec (ws := wsX6_hardest) B.pre
  have hown : s.vm.findClass RX6 = some m.cls := findClass_of_methodNamed B.named
  have hlocks := B.notSynchronized
  subst hsz
  have hD := hD0.self (sz := s.heap.size)
  generalize hAe : va_A [(h0, .inr (6, [.int 0, .ref kd, .ref mo, .ref st, .int 0, .ref ro, .ref tp, .int 0, .ref cd, .ref sr, .int 1, .int 0, .int 0, .ref ir, .ref ih, .ref ss, .ref sq, .ref ce, .ref lw, .int 40, .int 40, .int 0, .int 0, .ref wo, .ref he, .int 0, .int 0, .int 5, .ref sk, .ref na, .ref kp, .int 0, .int 0, .int 0, .int 0, .ref gb, .ref go, .ref fa, .ref ga, .int 0, .int 0, .ref vo]))] s.heap.size = A at hD ⊢
  have hA : ∀ q : Nat, s.heap.size ≤ q → A q := fun q h => by rw [← hAe]; exact Or.inr h
  have hS : va_S A s.heap s.heap [] := va_S.rf
  have hP : va_P G.1 vwCl [(h0, .inr (6, [.int 0, .ref kd, .ref mo, .ref st, .int 0, .ref ro, .ref tp, .int 0, .ref cd, .ref sr, .int 1, .int 0, .int 0, .ref ir, .ref ih, .ref ss, .ref sq, .ref ce, .ref lw, .int 40, .int 40, .int 0, .int 0, .ref wo, .ref he, .int 0, .int 0, .int 5, .ref sk, .ref na, .ref kp, .int 0, .int 0, .int 0, .int 0, .ref gb, .ref go, .ref fa, .ref ga, .int 0, .int 0, .ref vo]))] s.heap := hP
  have hD : va_D A [(h0, .inr (6, [.int 0, .ref kd, .ref mo, .ref st, .int 0, .ref ro, .ref tp, .int 0, .ref cd, .ref sr, .int 1, .int 0, .int 0, .ref ir, .ref ih, .ref ss, .ref sq, .ref ce, .ref lw, .int 40, .int 40, .int 0, .int 0, .ref wo, .ref he, .int 0, .int 0, .int 5, .ref sk, .ref na, .ref kp, .int 0, .int 0, .int 0, .int 0, .ref gb, .ref go, .ref fa, .ref ga, .int 0, .int 0, .ref vo]))] := hD
  have hl := lv_entry ([.ref h0, .int v0, .int v1]) (n := 8) (Nat.le_of_ble_eq_true rfl)
  rw [lg_entry_eq]
  generalize (lg_sl ([.ref h0, .int v0, .int v1]) ++ List.replicate (8 - (lg_sl ([.ref h0, .int v0, .int v1])).length) Slot.unset).toArray = ls at hl ⊢
  have hl : lv_has ls 8 [(0, .ref h0), (1, .int v0), (2, .int v1)] := hl
  have kf95 := hts (.fieldLink RX6 95 "PebbleInShoeModel" "judges" "I") (by decide +kernel)
  have hiX6 := (by decide +kernel : ∀ w ∈ wsX60, w ∈ wsX6_hardest)
  refine lv_iload_n hx hb dX6_hardest_0 rfl (lv_at hl 1 rfl) ?_
  have hPc : va_P G.1 vwCl [] s.heap := hP.sub [] rfl
  have hDc : va_D A [] := hD.sub [] (by decide) rfl
  have hFc := va_free (wc := []) hD hS hA [] rfl
  refine va_calli (va_runS (As := [.int v0]) (rest := []) ⟨hx, hb, hml, hown, hts⟩ (c_X6_isCase l G v0 s.heap.size) (va_cwS 1 hts gX6_hardest_X6_isCase rfl rfl rfl (by decide +kernel) ⟨Nat.le_of_ble_eq_true rfl, Nat.le_of_ble_eq_true rfl⟩) ⟨gPre_blind, fun U hU hW => gPre_of hU hW hK hPc hDc⟩ rfl rfl hl.1 rfl (lv_room (Nat.le_of_ble_eq_true rfl)) dX6_hardest_1 ⟨Nat.le_of_ble_eq_true rfl, Nat.le_of_ble_eq_true rfl⟩) hS (fun q _ h => hFc q h) hFc (fun r_1 u t H locs ht hvm w_2 hB hz1 hk1 hS => ?_)
  obtain ⟨hP1, hK1, hD1⟩ := hB
  rw [ht] at hP1
  have hP1 : va_P G.1 vwCl [] H := hP1
  have hD1 : va_D (va_A [] s.heap.size) [] := hD1
  have w_2 : r_1 = bz (decide (0 ≤ v0 ∧ v0 ≤ 60)) := w_2
  obtain ⟨hP, hD⟩ := va_join (wr := [(h0, .inr (6, [.int 0, .ref kd, .ref mo, .ref st, .int 0, .ref ro, .ref tp, .int 0, .ref cd, .ref sr, .int 1, .int 0, .int 0, .ref ir, .ref ih, .ref ss, .ref sq, .ref ce, .ref lw, .int 40, .int 40, .int 0, .int 0, .ref wo, .ref he, .int 0, .int 0, .int 5, .ref sk, .ref na, .ref kp, .int 0, .int 0, .int 0, .int 0, .ref gb, .ref go, .ref fa, .ref ga, .int 0, .int 0, .ref vo]))]) (w1 := []) hP hD [] [0] rfl rfl (by decide) (by decide) hk1 hFc hP1 hD1
  have hP : va_P G.1 vwCl [(h0, .inr (6, [.int 0, .ref kd, .ref mo, .ref st, .int 0, .ref ro, .ref tp, .int 0, .ref cd, .ref sr, .int 1, .int 0, .int 0, .ref ir, .ref ih, .ref ss, .ref sq, .ref ce, .ref lw, .int 40, .int 40, .int 0, .int 0, .ref wo, .ref he, .int 0, .int 0, .int 5, .ref sk, .ref na, .ref kp, .int 0, .int 0, .int 0, .int 0, .ref gb, .ref go, .ref fa, .ref ga, .int 0, .int 0, .ref vo]))] H := hP
  have hD : va_D A [(h0, .inr (6, [.int 0, .ref kd, .ref mo, .ref st, .int 0, .ref ro, .ref tp, .int 0, .ref cd, .ref sr, .int 1, .int 0, .int 0, .ref ir, .ref ih, .ref ss, .ref sq, .ref ce, .ref lw, .int 40, .int 40, .int 0, .int 0, .ref wo, .ref he, .int 0, .int 0, .int 5, .ref sk, .ref na, .ref kp, .int 0, .int 0, .int 0, .int 0, .ref gb, .ref go, .ref fa, .ref ga, .int 0, .int 0, .ref vo]))] := hD
  refine lv_if_eq (tgt := 16) hx hb dX6_hardest_4 (by decide) (fun c_3 => ?_) (fun c_3 => ?_)
  · skip
    have n_5 : ¬ (0 ≤ v0 ∧ v0 ≤ 60) := of_decide_eq_false (bz_eq w_2 c_3)
    refine lv_bipush (v := -2) hx hb dX6_hardest_16 (by decide) ?_
    have hpost : (fun (r : Int32) (u : Unit) => match u with | _ => r = (if (0 ≤ v0 ∧ v0 ≤ 60) ∧ (0 ≤ v1 ∧ v1 ≤ 1) then -1 else -2)) (-2) () := pp_X6_hardest_0_1 v0 v1 n_5
    exact W.iret (v := (-2)) hx hb hr (fun t ht hW => ⟨⟨(-2), (), rfl, hpost, trivial⟩, hS.F ht⟩) hS.2.2 dX6_hardest_18
  · skip
    have p_4 : 0 ≤ v0 ∧ v0 ≤ 60 := of_decide_eq_true (bz_ne w_2 c_3)
    refine lv_iload_n hx hb dX6_hardest_7 rfl (lv_at hl 2 rfl) ?_
    refine lv_iconst (v := 0) hx hb dX6_hardest_8 (by decide) ?_
    refine lv_iconst (v := 1) hx hb dX6_hardest_9 (by decide) ?_
    have hPc : va_P G.1 vwCl [] H := hP.sub [] rfl
    have hDc : va_D A [] := hD.sub [] (by decide) rfl
    have hFc := va_free (wc := []) hD hS hA [] rfl
    refine va_calli (va_runS (As := [.int v1, .int 0, .int 1]) (rest := []) ⟨hx, hb, hml, hown, hts⟩ (c_X6_in l G v1 0 1 H.size) (va_cwS 3 hts gX6_hardest_X6_in rfl rfl rfl (by decide +kernel) ⟨Nat.le_of_ble_eq_true rfl, Nat.le_of_ble_eq_true rfl⟩) ⟨gPre_blind, fun U hU hW => gPre_of hU hW hK hPc hDc⟩ rfl rfl hl.1 rfl (lv_room (Nat.le_of_ble_eq_true rfl)) dX6_hardest_10 ⟨Nat.le_of_ble_eq_true rfl, Nat.le_of_ble_eq_true rfl⟩) hS (fun q _ h => hFc q h) hFc (fun r_6 u t H locs ht hvm w_7 hB hz1 hk1 hS => ?_)
    obtain ⟨hP1, hK1, hD1⟩ := hB
    rw [ht] at hP1
    have hP1 : va_P G.1 vwCl [] H := hP1
    have hD1 : va_D (va_A [] _) [] := hD1
    have w_7 : r_6 = bz (decide (0 ≤ v1 ∧ v1 ≤ 1)) := w_7
    obtain ⟨hP, hD⟩ := va_join (wr := [(h0, .inr (6, [.int 0, .ref kd, .ref mo, .ref st, .int 0, .ref ro, .ref tp, .int 0, .ref cd, .ref sr, .int 1, .int 0, .int 0, .ref ir, .ref ih, .ref ss, .ref sq, .ref ce, .ref lw, .int 40, .int 40, .int 0, .int 0, .ref wo, .ref he, .int 0, .int 0, .int 5, .ref sk, .ref na, .ref kp, .int 0, .int 0, .int 0, .int 0, .ref gb, .ref go, .ref fa, .ref ga, .int 0, .int 0, .ref vo]))]) (w1 := []) hP hD [] [0] rfl rfl (by decide) (by decide) hk1 hFc hP1 hD1
    have hP : va_P G.1 vwCl [(h0, .inr (6, [.int 0, .ref kd, .ref mo, .ref st, .int 0, .ref ro, .ref tp, .int 0, .ref cd, .ref sr, .int 1, .int 0, .int 0, .ref ir, .ref ih, .ref ss, .ref sq, .ref ce, .ref lw, .int 40, .int 40, .int 0, .int 0, .ref wo, .ref he, .int 0, .int 0, .int 5, .ref sk, .ref na, .ref kp, .int 0, .int 0, .int 0, .int 0, .ref gb, .ref go, .ref fa, .ref ga, .int 0, .int 0, .ref vo]))] H := hP
    have hD : va_D A [(h0, .inr (6, [.int 0, .ref kd, .ref mo, .ref st, .int 0, .ref ro, .ref tp, .int 0, .ref cd, .ref sr, .int 1, .int 0, .int 0, .ref ir, .ref ih, .ref ss, .ref sq, .ref ce, .ref lw, .int 40, .int 40, .int 0, .int 0, .ref wo, .ref he, .int 0, .int 0, .int 5, .ref sk, .ref na, .ref kp, .int 0, .int 0, .int 0, .int 0, .ref gb, .ref go, .ref fa, .ref ga, .int 0, .int 0, .ref vo]))] := hD
    refine lv_if_ne (tgt := 19) hx hb dX6_hardest_13 (by decide) (fun c_8 => ?_) (fun c_8 => ?_)
    · skip
      have p_9 : 0 ≤ v1 ∧ v1 ≤ 1 := of_decide_eq_true (bz_ne w_7 c_8)
      refine lv_iconst (v := -1) hx hb dX6_hardest_19 (by decide) ?_
      refine lv_istore_n (lv' := [(3, .int (-1)), (0, .ref h0), (1, .int v0), (2, .int v1)]) hx hb dX6_hardest_20 rfl hl (by decide) rfl (fun ls hl => ?_)
      refine lv_iconst (v := -1) hx hb dX6_hardest_21 (by decide) ?_
      refine lv_istore (lv' := [(4, .int (-1)), (3, .int (-1)), (0, .ref h0), (1, .int v0), (2, .int v1)]) hx hb dX6_hardest_22 hl (by decide) rfl (fun ls hl => ?_)
      refine lv_iconst (v := 0) hx hb dX6_hardest_24 (by decide) ?_
      refine lv_istore (lv' := [(5, .int 0), (4, .int (-1)), (3, .int (-1)), (0, .ref h0), (1, .int v0), (2, .int v1)]) hx hb dX6_hardest_25 hl (by decide) rfl (fun ls hl => ?_)
      refine lv_iload hx hb dX6_hardest_27 (lv_at hl 0 rfl) ?_
      refine lv_aload_n hx hb dX6_hardest_29 rfl (lv_at hl 3 rfl) ?_
      refine va_get (D := G.1) (ci := 6) (v := .int 0) (C := RX6) (T := TX6) (N := 42) hx hb hts hiX6 hown hK hP 0 rfl rfl 4 (by decide) kf95 (fun _ h9 => h9) rfl dX6_hardest_30 ?_
      refine lv_icmp_ge (tgt := 119) hx hb dX6_hardest_33 (by decide) (fun c_11 => ?_) (fun c_11 => ?_)
      rotate_left
      · exact absurd (by decide) c_11
      refine lv_iload_n hx hb dX6_hardest_119 rfl (lv_at hl 5 rfl) ?_
      refine lv_if_ne (tgt := 127) hx hb dX6_hardest_120 (by decide) (fun c_12 => ?_) (fun c_12 => ?_)
      · skip
        refine lv_iload hx hb dX6_hardest_127 (lv_at hl 1 rfl) ?_
        have hpost : (fun (r : Int32) (u : Unit) => match u with | _ => r = (if (0 ≤ v0 ∧ v0 ≤ 60) ∧ (0 ≤ v1 ∧ v1 ≤ 1) then -1 else -2)) (-1) () := pp_X6_hardest_0_2 v0 v1 p_4 p_9 c_12
        exact W.iret (v := (-1)) hx hb hr (fun t ht hW => ⟨⟨(-1), (), rfl, hpost, trivial⟩, hS.F ht⟩) hS.2.2 dX6_hardest_129
      · skip
        refine lv_iload_n hx hb dX6_hardest_123 rfl (lv_at hl 2 rfl) ?_
        refine lv_goto (tgt := 129) hx hb dX6_hardest_124 (by decide) ?_
        have hpost : (fun (r : Int32) (u : Unit) => match u with | _ => r = (if (0 ≤ v0 ∧ v0 ≤ 60) ∧ (0 ≤ v1 ∧ v1 ≤ 1) then -1 else -2)) (-1) () := pp_X6_hardest_0_3 v0 v1 p_4 p_9 c_12
        exact W.iret (v := (-1)) hx hb hr (fun t ht hW => ⟨⟨(-1), (), rfl, hpost, trivial⟩, hS.F ht⟩) hS.2.2 dX6_hardest_129
    · skip
      have n_10 : ¬ (0 ≤ v1 ∧ v1 ≤ 1) := of_decide_eq_false (bz_eq w_7 c_8)
      refine lv_bipush (v := -2) hx hb dX6_hardest_16 (by decide) ?_
      have hpost : (fun (r : Int32) (u : Unit) => match u with | _ => r = (if (0 ≤ v0 ∧ v0 ≤ 60) ∧ (0 ≤ v1 ∧ v1 ≤ 1) then -1 else -2)) (-2) () := pp_X6_hardest_0_4 v0 v1 p_4 n_10
      exact W.iret (v := (-2)) hx hb hr (fun t ht hW => ⟨⟨(-2), (), rfl, hpost, trivial⟩, hS.F ht⟩) hS.2.2 dX6_hardest_18
theorem pp_X6_thick_0_1 (v0 : Int32) (v1 : Int32) (v2 : Int32) : ((-5) : Int32) = -5 := by
  first
    | rfl
    | exact bz_pos (by (first | omega | (simp only [Int32.lt_iff_toInt_lt, Int32.le_iff_toInt_le, ← Int32.toInt_inj, Int32.reduceToInt] at * <;> omega)))
    | exact bz_neg (by (first | omega | (simp only [Int32.lt_iff_toInt_lt, Int32.le_iff_toInt_le, ← Int32.toInt_inj, Int32.reduceToInt] at * <;> omega)))
    | ((repeat' split) <;> first | rfl | assumption | (symm; assumption) | (exfalso; (first | omega | (simp only [Int32.lt_iff_toInt_lt, Int32.le_iff_toInt_le, ← Int32.toInt_inj, Int32.reduceToInt] at * <;> omega))))
abbrev q_X6_thick_0 (G : gG) (h0 kd mo st ro tp cd sr ir ih ss sq ce lw wo he sk na kp gb go fa ga vo : Nat) (v0 : Int32) (v1 : Int32) (v2 : Int32) (A : Nat → Prop) : Array Value → State → Outcome → State → Prop := va_Qi (fun (r : Int32) (u : Unit) => match u with | _ => r = -5) (fun (u : Unit) t => match u with | _ => True) A
set_option maxHeartbeats 4000000 in
set_option maxRecDepth 100000 in
theorem c_X6_thick_0 (l : Launch) (G : gG) (h0 kd mo st ro tp cd sr ir ih ss sq ce lw wo he sk na kp gb go fa ga vo : Nat) (v0 : Int32) (v1 : Int32) (v2 : Int32) (sz : Nat) : Met l yX6_thick wsX6_thick ({ frames := 2, cells := 0, slots := 0, locals := 43 }) (gPre G [.ref h0, .int v0, .int v1, .int v2] [(h0, .inr (6, [.int 0, .ref kd, .ref mo, .ref st, .int 0, .ref ro, .ref tp, .int 0, .ref cd, .ref sr, .int 1, .int 0, .int 0, .ref ir, .ref ih, .ref ss, .ref sq, .ref ce, .ref lw, .int 40, .int 40, .int 0, .int 0, .ref wo, .ref he, .int 0, .int 0, .int 5, .ref sk, .ref na, .ref kp, .int 0, .int 0, .int 0, .int 0, .ref gb, .ref go, .ref fa, .ref ga, .int 0, .int 0, .ref vo]))] sz) (q_X6_thick_0 G h0 kd mo st ro tp cd sr ir ih ss sq ce lw wo he sk na kp gb go fa ga vo v0 v1 v2 (va_A [(h0, .inr (6, [.int 0, .ref kd, .ref mo, .ref st, .int 0, .ref ro, .ref tp, .int 0, .ref cd, .ref sr, .int 1, .int 0, .int 0, .ref ir, .ref ih, .ref ss, .ref sq, .ref ce, .ref lw, .int 40, .int 40, .int 0, .int 0, .ref wo, .ref he, .int 0, .int 0, .int 5, .ref sk, .ref na, .ref kp, .int 0, .int 0, .int 0, .int 0, .ref gb, .ref go, .ref fa, .ref ga, .int 0, .int 0, .ref vo]))] sz)) 0 0 (va_A [(h0, .inr (6, [.int 0, .ref kd, .ref mo, .ref st, .int 0, .ref ro, .ref tp, .int 0, .ref cd, .ref sr, .int 1, .int 0, .int 0, .ref ir, .ref ih, .ref ss, .ref sq, .ref ce, .ref lw, .int 40, .int 40, .int 0, .int 0, .ref wo, .ref he, .int 0, .int 0, .int 5, .ref sk, .ref na, .ref kp, .int 0, .int 0, .int 0, .int 0, .ref gb, .ref go, .ref fa, .ref ga, .int 0, .int 0, .ref vo]))] sz) := by
  refine Met.ofW (cc := cX6_thick) (maxL := 7) (ret := (some .int)) (by decide) rfl ?_
  intro p e s m args below meth c s₁ B hml hv
  obtain ⟨rfl, hsz, hP, hK, hD0⟩ := hv
  have hx := B.exec
  have hb := B.bytes
  have hr := B.returns
  have hts := atoms_spec (ws := wsX6_thick) B.pre
  have hown : s.vm.findClass RX6 = some m.cls := findClass_of_methodNamed B.named
  have hlocks := B.notSynchronized
  subst hsz
  have hD := hD0.self (sz := s.heap.size)
  generalize hAe : va_A [(h0, .inr (6, [.int 0, .ref kd, .ref mo, .ref st, .int 0, .ref ro, .ref tp, .int 0, .ref cd, .ref sr, .int 1, .int 0, .int 0, .ref ir, .ref ih, .ref ss, .ref sq, .ref ce, .ref lw, .int 40, .int 40, .int 0, .int 0, .ref wo, .ref he, .int 0, .int 0, .int 5, .ref sk, .ref na, .ref kp, .int 0, .int 0, .int 0, .int 0, .ref gb, .ref go, .ref fa, .ref ga, .int 0, .int 0, .ref vo]))] s.heap.size = A at hD ⊢
  have hA : ∀ q : Nat, s.heap.size ≤ q → A q := fun q h => by rw [← hAe]; exact Or.inr h
  have hS : va_S A s.heap s.heap [] := va_S.rf
  have hP : va_P G.1 vwCl [(h0, .inr (6, [.int 0, .ref kd, .ref mo, .ref st, .int 0, .ref ro, .ref tp, .int 0, .ref cd, .ref sr, .int 1, .int 0, .int 0, .ref ir, .ref ih, .ref ss, .ref sq, .ref ce, .ref lw, .int 40, .int 40, .int 0, .int 0, .ref wo, .ref he, .int 0, .int 0, .int 5, .ref sk, .ref na, .ref kp, .int 0, .int 0, .int 0, .int 0, .ref gb, .ref go, .ref fa, .ref ga, .int 0, .int 0, .ref vo]))] s.heap := hP
  have hD : va_D A [(h0, .inr (6, [.int 0, .ref kd, .ref mo, .ref st, .int 0, .ref ro, .ref tp, .int 0, .ref cd, .ref sr, .int 1, .int 0, .int 0, .ref ir, .ref ih, .ref ss, .ref sq, .ref ce, .ref lw, .int 40, .int 40, .int 0, .int 0, .ref wo, .ref he, .int 0, .int 0, .int 5, .ref sk, .ref na, .ref kp, .int 0, .int 0, .int 0, .int 0, .ref gb, .ref go, .ref fa, .ref ga, .int 0, .int 0, .ref vo]))] := hD
  have hl := lv_entry ([.ref h0, .int v0, .int v1, .int v2]) (n := 7) (Nat.le_of_ble_eq_true rfl)
  rw [lg_entry_eq]
  generalize (lg_sl ([.ref h0, .int v0, .int v1, .int v2]) ++ List.replicate (7 - (lg_sl ([.ref h0, .int v0, .int v1, .int v2])).length) Slot.unset).toArray = ls at hl ⊢
  have hl : lv_has ls 7 [(0, .ref h0), (1, .int v0), (2, .int v1), (3, .int v2)] := hl
  refine lv_aload_n hx hb dX6_thick_0 rfl (lv_at hl 0 rfl) ?_
  refine lv_iload_n hx hb dX6_thick_1 rfl (lv_at hl 1 rfl) ?_
  have hPc : va_P G.1 vwCl [(h0, .inr (6, [.int 0, .ref kd, .ref mo, .ref st, .int 0, .ref ro, .ref tp, .int 0, .ref cd, .ref sr, .int 1, .int 0, .int 0, .ref ir, .ref ih, .ref ss, .ref sq, .ref ce, .ref lw, .int 40, .int 40, .int 0, .int 0, .ref wo, .ref he, .int 0, .int 0, .int 5, .ref sk, .ref na, .ref kp, .int 0, .int 0, .int 0, .int 0, .ref gb, .ref go, .ref fa, .ref ga, .int 0, .int 0, .ref vo]))] s.heap := hP.sub [0] rfl
  have hDc : va_D A [(h0, .inr (6, [.int 0, .ref kd, .ref mo, .ref st, .int 0, .ref ro, .ref tp, .int 0, .ref cd, .ref sr, .int 1, .int 0, .int 0, .ref ir, .ref ih, .ref ss, .ref sq, .ref ce, .ref lw, .int 40, .int 40, .int 0, .int 0, .ref wo, .ref he, .int 0, .int 0, .int 5, .ref sk, .ref na, .ref kp, .int 0, .int 0, .int 0, .int 0, .ref gb, .ref go, .ref fa, .ref ga, .int 0, .int 0, .ref vo]))] := hD.sub [0] (by decide) rfl
  have hFc := va_free (wc := [(h0, .inr (6, [.int 0, .ref kd, .ref mo, .ref st, .int 0, .ref ro, .ref tp, .int 0, .ref cd, .ref sr, .int 1, .int 0, .int 0, .ref ir, .ref ih, .ref ss, .ref sq, .ref ce, .ref lw, .int 40, .int 40, .int 0, .int 0, .ref wo, .ref he, .int 0, .int 0, .int 5, .ref sk, .ref na, .ref kp, .int 0, .int 0, .int 0, .int 0, .ref gb, .ref go, .ref fa, .ref ga, .int 0, .int 0, .ref vo]))]) hD hS hA [0] rfl
  refine va_calli (va_runV (As := [.int v0]) (rest := []) ⟨hx, hb, hml, hown, hts⟩ (c_X6_isJudge_0 l G h0 kd mo st ro tp cd sr ir ih ss sq ce lw wo he sk na kp gb go fa ga vo v0 s.heap.size) (cwV 1 hts gX6_thick_X6_isJudge rfl rfl rfl (by decide +kernel) ⟨Nat.le_of_ble_eq_true rfl, Nat.le_of_ble_eq_true rfl⟩) ⟨gPre_blind, va_recv hK hPc (ci := 6) (q0 := 0) rfl rfl, fun U hU hW => gPre_of hU hW hK hPc hDc⟩ rfl rfl hl.1 rfl (lv_room (Nat.le_of_ble_eq_true rfl)) dX6_thick_2 ⟨Nat.le_of_ble_eq_true rfl, Nat.le_of_ble_eq_true rfl⟩) hS (fun q _ h => hFc q h) hFc (fun r_1 u t H locs ht hvm w_2 hB hz1 hk1 hS => ?_)
  obtain ⟨hP1, hK1, hD1⟩ := hB
  rw [ht] at hP1
  have hP1 : va_P G.1 vwCl [(h0, .inr (6, [.int 0, .ref kd, .ref mo, .ref st, .int 0, .ref ro, .ref tp, .int 0, .ref cd, .ref sr, .int 1, .int 0, .int 0, .ref ir, .ref ih, .ref ss, .ref sq, .ref ce, .ref lw, .int 40, .int 40, .int 0, .int 0, .ref wo, .ref he, .int 0, .int 0, .int 5, .ref sk, .ref na, .ref kp, .int 0, .int 0, .int 0, .int 0, .ref gb, .ref go, .ref fa, .ref ga, .int 0, .int 0, .ref vo]))] H := hP1
  have hD1 : va_D (va_A [(h0, .inr (6, [.int 0, .ref kd, .ref mo, .ref st, .int 0, .ref ro, .ref tp, .int 0, .ref cd, .ref sr, .int 1, .int 0, .int 0, .ref ir, .ref ih, .ref ss, .ref sq, .ref ce, .ref lw, .int 40, .int 40, .int 0, .int 0, .ref wo, .ref he, .int 0, .int 0, .int 5, .ref sk, .ref na, .ref kp, .int 0, .int 0, .int 0, .int 0, .ref gb, .ref go, .ref fa, .ref ga, .int 0, .int 0, .ref vo]))] s.heap.size) [(h0, .inr (6, [.int 0, .ref kd, .ref mo, .ref st, .int 0, .ref ro, .ref tp, .int 0, .ref cd, .ref sr, .int 1, .int 0, .int 0, .ref ir, .ref ih, .ref ss, .ref sq, .ref ce, .ref lw, .int 40, .int 40, .int 0, .int 0, .ref wo, .ref he, .int 0, .int 0, .int 5, .ref sk, .ref na, .ref kp, .int 0, .int 0, .int 0, .int 0, .ref gb, .ref go, .ref fa, .ref ga, .int 0, .int 0, .ref vo]))] := hD1
  have w_2 : r_1 = 0 := w_2
  obtain ⟨hP, hD⟩ := va_join (wr := []) (w1 := [(h0, .inr (6, [.int 0, .ref kd, .ref mo, .ref st, .int 0, .ref ro, .ref tp, .int 0, .ref cd, .ref sr, .int 1, .int 0, .int 0, .ref ir, .ref ih, .ref ss, .ref sq, .ref ce, .ref lw, .int 40, .int 40, .int 0, .int 0, .ref wo, .ref he, .int 0, .int 0, .int 5, .ref sk, .ref na, .ref kp, .int 0, .int 0, .int 0, .int 0, .ref gb, .ref go, .ref fa, .ref ga, .int 0, .int 0, .ref vo]))]) hP hD [0] [] rfl rfl (by decide) (by decide) hk1 hFc hP1 hD1
  have hP : va_P G.1 vwCl [(h0, .inr (6, [.int 0, .ref kd, .ref mo, .ref st, .int 0, .ref ro, .ref tp, .int 0, .ref cd, .ref sr, .int 1, .int 0, .int 0, .ref ir, .ref ih, .ref ss, .ref sq, .ref ce, .ref lw, .int 40, .int 40, .int 0, .int 0, .ref wo, .ref he, .int 0, .int 0, .int 5, .ref sk, .ref na, .ref kp, .int 0, .int 0, .int 0, .int 0, .ref gb, .ref go, .ref fa, .ref ga, .int 0, .int 0, .ref vo]))] H := hP
  have hD : va_D A [(h0, .inr (6, [.int 0, .ref kd, .ref mo, .ref st, .int 0, .ref ro, .ref tp, .int 0, .ref cd, .ref sr, .int 1, .int 0, .int 0, .ref ir, .ref ih, .ref ss, .ref sq, .ref ce, .ref lw, .int 40, .int 40, .int 0, .int 0, .ref wo, .ref he, .int 0, .int 0, .int 5, .ref sk, .ref na, .ref kp, .int 0, .int 0, .int 0, .int 0, .ref gb, .ref go, .ref fa, .ref ga, .int 0, .int 0, .ref vo]))] := hD
  have w_2 : r_1 = 0 := w_2
  subst w_2
  refine lv_if_eq (tgt := 16) hx hb dX6_thick_5 (by decide) (fun c_3 => ?_) (fun c_3 => ?_)
  rotate_left
  · exact absurd (by decide) c_3
  refine lv_bipush (v := -5) hx hb dX6_thick_16 (by decide) ?_
  have hpost : (fun (r : Int32) (u : Unit) => match u with | _ => r = -5) (-5) () := pp_X6_thick_0_1 v0 v1 v2 
  exact W.iret (v := (-5)) hx hb hr (fun t ht hW => ⟨⟨(-5), (), rfl, hpost, trivial⟩, hS.F ht⟩) hS.2.2 dX6_thick_18
theorem pp_X6_order_0_1 (v0 : Int32) (v1 : Int32) (v2 : Int32) : ((-5) : Int32) = -5 := by
  first
    | rfl
    | exact bz_pos (by (first | omega | (simp only [Int32.lt_iff_toInt_lt, Int32.le_iff_toInt_le, ← Int32.toInt_inj, Int32.reduceToInt] at * <;> omega)))
    | exact bz_neg (by (first | omega | (simp only [Int32.lt_iff_toInt_lt, Int32.le_iff_toInt_le, ← Int32.toInt_inj, Int32.reduceToInt] at * <;> omega)))
    | ((repeat' split) <;> first | rfl | assumption | (symm; assumption) | (exfalso; (first | omega | (simp only [Int32.lt_iff_toInt_lt, Int32.le_iff_toInt_le, ← Int32.toInt_inj, Int32.reduceToInt] at * <;> omega))))
abbrev q_X6_order_0 (G : gG) (h0 kd mo st ro tp cd sr ir ih ss sq ce lw wo he sk na kp gb go fa ga vo : Nat) (v0 : Int32) (v1 : Int32) (v2 : Int32) (A : Nat → Prop) : Array Value → State → Outcome → State → Prop := va_Qi (fun (r : Int32) (u : Unit) => match u with | _ => r = -5) (fun (u : Unit) t => match u with | _ => True) A
set_option maxHeartbeats 4000000 in
set_option maxRecDepth 100000 in
theorem c_X6_order_0 (l : Launch) (G : gG) (h0 kd mo st ro tp cd sr ir ih ss sq ce lw wo he sk na kp gb go fa ga vo : Nat) (v0 : Int32) (v1 : Int32) (v2 : Int32) (sz : Nat) : Met l yX6_order wsX6_order ({ frames := 2, cells := 0, slots := 0, locals := 43 }) (gPre G [.ref h0, .int v0, .int v1, .int v2] [(h0, .inr (6, [.int 0, .ref kd, .ref mo, .ref st, .int 0, .ref ro, .ref tp, .int 0, .ref cd, .ref sr, .int 1, .int 0, .int 0, .ref ir, .ref ih, .ref ss, .ref sq, .ref ce, .ref lw, .int 40, .int 40, .int 0, .int 0, .ref wo, .ref he, .int 0, .int 0, .int 5, .ref sk, .ref na, .ref kp, .int 0, .int 0, .int 0, .int 0, .ref gb, .ref go, .ref fa, .ref ga, .int 0, .int 0, .ref vo]))] sz) (q_X6_order_0 G h0 kd mo st ro tp cd sr ir ih ss sq ce lw wo he sk na kp gb go fa ga vo v0 v1 v2 (va_A [(h0, .inr (6, [.int 0, .ref kd, .ref mo, .ref st, .int 0, .ref ro, .ref tp, .int 0, .ref cd, .ref sr, .int 1, .int 0, .int 0, .ref ir, .ref ih, .ref ss, .ref sq, .ref ce, .ref lw, .int 40, .int 40, .int 0, .int 0, .ref wo, .ref he, .int 0, .int 0, .int 5, .ref sk, .ref na, .ref kp, .int 0, .int 0, .int 0, .int 0, .ref gb, .ref go, .ref fa, .ref ga, .int 0, .int 0, .ref vo]))] sz)) 0 0 (va_A [(h0, .inr (6, [.int 0, .ref kd, .ref mo, .ref st, .int 0, .ref ro, .ref tp, .int 0, .ref cd, .ref sr, .int 1, .int 0, .int 0, .ref ir, .ref ih, .ref ss, .ref sq, .ref ce, .ref lw, .int 40, .int 40, .int 0, .int 0, .ref wo, .ref he, .int 0, .int 0, .int 5, .ref sk, .ref na, .ref kp, .int 0, .int 0, .int 0, .int 0, .ref gb, .ref go, .ref fa, .ref ga, .int 0, .int 0, .ref vo]))] sz) := by
  refine Met.ofW (cc := cX6_order) (maxL := 8) (ret := (some .int)) (by decide) rfl ?_
  intro p e s m args below meth c s₁ B hml hv
  obtain ⟨rfl, hsz, hP, hK, hD0⟩ := hv
  have hx := B.exec
  have hb := B.bytes
  have hr := B.returns
  have hts := atoms_spec (ws := wsX6_order) B.pre
  have hown : s.vm.findClass RX6 = some m.cls := findClass_of_methodNamed B.named
  have hlocks := B.notSynchronized
  subst hsz
  have hD := hD0.self (sz := s.heap.size)
  generalize hAe : va_A [(h0, .inr (6, [.int 0, .ref kd, .ref mo, .ref st, .int 0, .ref ro, .ref tp, .int 0, .ref cd, .ref sr, .int 1, .int 0, .int 0, .ref ir, .ref ih, .ref ss, .ref sq, .ref ce, .ref lw, .int 40, .int 40, .int 0, .int 0, .ref wo, .ref he, .int 0, .int 0, .int 5, .ref sk, .ref na, .ref kp, .int 0, .int 0, .int 0, .int 0, .ref gb, .ref go, .ref fa, .ref ga, .int 0, .int 0, .ref vo]))] s.heap.size = A at hD ⊢
  have hA : ∀ q : Nat, s.heap.size ≤ q → A q := fun q h => by rw [← hAe]; exact Or.inr h
  have hS : va_S A s.heap s.heap [] := va_S.rf
  have hP : va_P G.1 vwCl [(h0, .inr (6, [.int 0, .ref kd, .ref mo, .ref st, .int 0, .ref ro, .ref tp, .int 0, .ref cd, .ref sr, .int 1, .int 0, .int 0, .ref ir, .ref ih, .ref ss, .ref sq, .ref ce, .ref lw, .int 40, .int 40, .int 0, .int 0, .ref wo, .ref he, .int 0, .int 0, .int 5, .ref sk, .ref na, .ref kp, .int 0, .int 0, .int 0, .int 0, .ref gb, .ref go, .ref fa, .ref ga, .int 0, .int 0, .ref vo]))] s.heap := hP
  have hD : va_D A [(h0, .inr (6, [.int 0, .ref kd, .ref mo, .ref st, .int 0, .ref ro, .ref tp, .int 0, .ref cd, .ref sr, .int 1, .int 0, .int 0, .ref ir, .ref ih, .ref ss, .ref sq, .ref ce, .ref lw, .int 40, .int 40, .int 0, .int 0, .ref wo, .ref he, .int 0, .int 0, .int 5, .ref sk, .ref na, .ref kp, .int 0, .int 0, .int 0, .int 0, .ref gb, .ref go, .ref fa, .ref ga, .int 0, .int 0, .ref vo]))] := hD
  have hl := lv_entry ([.ref h0, .int v0, .int v1, .int v2]) (n := 8) (Nat.le_of_ble_eq_true rfl)
  rw [lg_entry_eq]
  generalize (lg_sl ([.ref h0, .int v0, .int v1, .int v2]) ++ List.replicate (8 - (lg_sl ([.ref h0, .int v0, .int v1, .int v2])).length) Slot.unset).toArray = ls at hl ⊢
  have hl : lv_has ls 8 [(0, .ref h0), (1, .int v0), (2, .int v1), (3, .int v2)] := hl
  refine lv_aload_n hx hb dX6_order_0 rfl (lv_at hl 0 rfl) ?_
  refine lv_iload_n hx hb dX6_order_1 rfl (lv_at hl 1 rfl) ?_
  have hPc : va_P G.1 vwCl [(h0, .inr (6, [.int 0, .ref kd, .ref mo, .ref st, .int 0, .ref ro, .ref tp, .int 0, .ref cd, .ref sr, .int 1, .int 0, .int 0, .ref ir, .ref ih, .ref ss, .ref sq, .ref ce, .ref lw, .int 40, .int 40, .int 0, .int 0, .ref wo, .ref he, .int 0, .int 0, .int 5, .ref sk, .ref na, .ref kp, .int 0, .int 0, .int 0, .int 0, .ref gb, .ref go, .ref fa, .ref ga, .int 0, .int 0, .ref vo]))] s.heap := hP.sub [0] rfl
  have hDc : va_D A [(h0, .inr (6, [.int 0, .ref kd, .ref mo, .ref st, .int 0, .ref ro, .ref tp, .int 0, .ref cd, .ref sr, .int 1, .int 0, .int 0, .ref ir, .ref ih, .ref ss, .ref sq, .ref ce, .ref lw, .int 40, .int 40, .int 0, .int 0, .ref wo, .ref he, .int 0, .int 0, .int 5, .ref sk, .ref na, .ref kp, .int 0, .int 0, .int 0, .int 0, .ref gb, .ref go, .ref fa, .ref ga, .int 0, .int 0, .ref vo]))] := hD.sub [0] (by decide) rfl
  have hFc := va_free (wc := [(h0, .inr (6, [.int 0, .ref kd, .ref mo, .ref st, .int 0, .ref ro, .ref tp, .int 0, .ref cd, .ref sr, .int 1, .int 0, .int 0, .ref ir, .ref ih, .ref ss, .ref sq, .ref ce, .ref lw, .int 40, .int 40, .int 0, .int 0, .ref wo, .ref he, .int 0, .int 0, .int 5, .ref sk, .ref na, .ref kp, .int 0, .int 0, .int 0, .int 0, .ref gb, .ref go, .ref fa, .ref ga, .int 0, .int 0, .ref vo]))]) hD hS hA [0] rfl
  refine va_calli (va_runV (As := [.int v0]) (rest := []) ⟨hx, hb, hml, hown, hts⟩ (c_X6_isJudge_0 l G h0 kd mo st ro tp cd sr ir ih ss sq ce lw wo he sk na kp gb go fa ga vo v0 s.heap.size) (cwV 1 hts gX6_order_X6_isJudge rfl rfl rfl (by decide +kernel) ⟨Nat.le_of_ble_eq_true rfl, Nat.le_of_ble_eq_true rfl⟩) ⟨gPre_blind, va_recv hK hPc (ci := 6) (q0 := 0) rfl rfl, fun U hU hW => gPre_of hU hW hK hPc hDc⟩ rfl rfl hl.1 rfl (lv_room (Nat.le_of_ble_eq_true rfl)) dX6_order_2 ⟨Nat.le_of_ble_eq_true rfl, Nat.le_of_ble_eq_true rfl⟩) hS (fun q _ h => hFc q h) hFc (fun r_1 u t H locs ht hvm w_2 hB hz1 hk1 hS => ?_)
  obtain ⟨hP1, hK1, hD1⟩ := hB
  rw [ht] at hP1
  have hP1 : va_P G.1 vwCl [(h0, .inr (6, [.int 0, .ref kd, .ref mo, .ref st, .int 0, .ref ro, .ref tp, .int 0, .ref cd, .ref sr, .int 1, .int 0, .int 0, .ref ir, .ref ih, .ref ss, .ref sq, .ref ce, .ref lw, .int 40, .int 40, .int 0, .int 0, .ref wo, .ref he, .int 0, .int 0, .int 5, .ref sk, .ref na, .ref kp, .int 0, .int 0, .int 0, .int 0, .ref gb, .ref go, .ref fa, .ref ga, .int 0, .int 0, .ref vo]))] H := hP1
  have hD1 : va_D (va_A [(h0, .inr (6, [.int 0, .ref kd, .ref mo, .ref st, .int 0, .ref ro, .ref tp, .int 0, .ref cd, .ref sr, .int 1, .int 0, .int 0, .ref ir, .ref ih, .ref ss, .ref sq, .ref ce, .ref lw, .int 40, .int 40, .int 0, .int 0, .ref wo, .ref he, .int 0, .int 0, .int 5, .ref sk, .ref na, .ref kp, .int 0, .int 0, .int 0, .int 0, .ref gb, .ref go, .ref fa, .ref ga, .int 0, .int 0, .ref vo]))] s.heap.size) [(h0, .inr (6, [.int 0, .ref kd, .ref mo, .ref st, .int 0, .ref ro, .ref tp, .int 0, .ref cd, .ref sr, .int 1, .int 0, .int 0, .ref ir, .ref ih, .ref ss, .ref sq, .ref ce, .ref lw, .int 40, .int 40, .int 0, .int 0, .ref wo, .ref he, .int 0, .int 0, .int 5, .ref sk, .ref na, .ref kp, .int 0, .int 0, .int 0, .int 0, .ref gb, .ref go, .ref fa, .ref ga, .int 0, .int 0, .ref vo]))] := hD1
  have w_2 : r_1 = 0 := w_2
  obtain ⟨hP, hD⟩ := va_join (wr := []) (w1 := [(h0, .inr (6, [.int 0, .ref kd, .ref mo, .ref st, .int 0, .ref ro, .ref tp, .int 0, .ref cd, .ref sr, .int 1, .int 0, .int 0, .ref ir, .ref ih, .ref ss, .ref sq, .ref ce, .ref lw, .int 40, .int 40, .int 0, .int 0, .ref wo, .ref he, .int 0, .int 0, .int 5, .ref sk, .ref na, .ref kp, .int 0, .int 0, .int 0, .int 0, .ref gb, .ref go, .ref fa, .ref ga, .int 0, .int 0, .ref vo]))]) hP hD [0] [] rfl rfl (by decide) (by decide) hk1 hFc hP1 hD1
  have hP : va_P G.1 vwCl [(h0, .inr (6, [.int 0, .ref kd, .ref mo, .ref st, .int 0, .ref ro, .ref tp, .int 0, .ref cd, .ref sr, .int 1, .int 0, .int 0, .ref ir, .ref ih, .ref ss, .ref sq, .ref ce, .ref lw, .int 40, .int 40, .int 0, .int 0, .ref wo, .ref he, .int 0, .int 0, .int 5, .ref sk, .ref na, .ref kp, .int 0, .int 0, .int 0, .int 0, .ref gb, .ref go, .ref fa, .ref ga, .int 0, .int 0, .ref vo]))] H := hP
  have hD : va_D A [(h0, .inr (6, [.int 0, .ref kd, .ref mo, .ref st, .int 0, .ref ro, .ref tp, .int 0, .ref cd, .ref sr, .int 1, .int 0, .int 0, .ref ir, .ref ih, .ref ss, .ref sq, .ref ce, .ref lw, .int 40, .int 40, .int 0, .int 0, .ref wo, .ref he, .int 0, .int 0, .int 5, .ref sk, .ref na, .ref kp, .int 0, .int 0, .int 0, .int 0, .ref gb, .ref go, .ref fa, .ref ga, .int 0, .int 0, .ref vo]))] := hD
  have w_2 : r_1 = 0 := w_2
  subst w_2
  refine lv_if_ne (tgt := 11) hx hb dX6_order_5 (by decide) (fun c_3 => ?_) (fun c_3 => ?_)
  · exact absurd (by decide) c_3
  refine lv_bipush (v := -5) hx hb dX6_order_8 (by decide) ?_
  have hpost : (fun (r : Int32) (u : Unit) => match u with | _ => r = -5) (-5) () := pp_X6_order_0_1 v0 v1 v2 
  exact W.iret (v := (-5)) hx hb hr (fun t ht hW => ⟨⟨(-5), (), rfl, hpost, trivial⟩, hS.F ht⟩) hS.2.2 dX6_order_10
theorem pp_X6_counsel_0_1 (v0 : Int32) (v1 : Int32) (v2 : Int32) : ((-5) : Int32) = -5 := by
  first
    | rfl
    | exact bz_pos (by (first | omega | (simp only [Int32.lt_iff_toInt_lt, Int32.le_iff_toInt_le, ← Int32.toInt_inj, Int32.reduceToInt] at * <;> omega)))
    | exact bz_neg (by (first | omega | (simp only [Int32.lt_iff_toInt_lt, Int32.le_iff_toInt_le, ← Int32.toInt_inj, Int32.reduceToInt] at * <;> omega)))
    | ((repeat' split) <;> first | rfl | assumption | (symm; assumption) | (exfalso; (first | omega | (simp only [Int32.lt_iff_toInt_lt, Int32.le_iff_toInt_le, ← Int32.toInt_inj, Int32.reduceToInt] at * <;> omega))))
abbrev q_X6_counsel_0 (G : gG) (h0 kd mo st ro tp cd sr ir ih ss sq ce lw wo he sk na kp gb go fa ga vo : Nat) (v0 : Int32) (v1 : Int32) (v2 : Int32) (A : Nat → Prop) : Array Value → State → Outcome → State → Prop := va_Qi (fun (r : Int32) (u : Unit) => match u with | _ => r = -5) (fun (u : Unit) t => match u with | _ => True) A
set_option maxHeartbeats 4000000 in
set_option maxRecDepth 100000 in
theorem c_X6_counsel_0 (l : Launch) (G : gG) (h0 kd mo st ro tp cd sr ir ih ss sq ce lw wo he sk na kp gb go fa ga vo : Nat) (v0 : Int32) (v1 : Int32) (v2 : Int32) (sz : Nat) : Met l yX6_counsel wsX6_counsel ({ frames := 2, cells := 0, slots := 0, locals := 43 }) (gPre G [.ref h0, .int v0, .int v1, .int v2] [(h0, .inr (6, [.int 0, .ref kd, .ref mo, .ref st, .int 0, .ref ro, .ref tp, .int 0, .ref cd, .ref sr, .int 1, .int 0, .int 0, .ref ir, .ref ih, .ref ss, .ref sq, .ref ce, .ref lw, .int 40, .int 40, .int 0, .int 0, .ref wo, .ref he, .int 0, .int 0, .int 5, .ref sk, .ref na, .ref kp, .int 0, .int 0, .int 0, .int 0, .ref gb, .ref go, .ref fa, .ref ga, .int 0, .int 0, .ref vo]))] sz) (q_X6_counsel_0 G h0 kd mo st ro tp cd sr ir ih ss sq ce lw wo he sk na kp gb go fa ga vo v0 v1 v2 (va_A [(h0, .inr (6, [.int 0, .ref kd, .ref mo, .ref st, .int 0, .ref ro, .ref tp, .int 0, .ref cd, .ref sr, .int 1, .int 0, .int 0, .ref ir, .ref ih, .ref ss, .ref sq, .ref ce, .ref lw, .int 40, .int 40, .int 0, .int 0, .ref wo, .ref he, .int 0, .int 0, .int 5, .ref sk, .ref na, .ref kp, .int 0, .int 0, .int 0, .int 0, .ref gb, .ref go, .ref fa, .ref ga, .int 0, .int 0, .ref vo]))] sz)) 0 0 (va_A [(h0, .inr (6, [.int 0, .ref kd, .ref mo, .ref st, .int 0, .ref ro, .ref tp, .int 0, .ref cd, .ref sr, .int 1, .int 0, .int 0, .ref ir, .ref ih, .ref ss, .ref sq, .ref ce, .ref lw, .int 40, .int 40, .int 0, .int 0, .ref wo, .ref he, .int 0, .int 0, .int 5, .ref sk, .ref na, .ref kp, .int 0, .int 0, .int 0, .int 0, .ref gb, .ref go, .ref fa, .ref ga, .int 0, .int 0, .ref vo]))] sz) := by
  refine Met.ofW (cc := cX6_counsel) (maxL := 14) (ret := (some .int)) (by decide) rfl ?_
  intro p e s m args below meth c s₁ B hml hv
  obtain ⟨rfl, hsz, hP, hK, hD0⟩ := hv
  have hx := B.exec
  have hb := B.bytes
  have hr := B.returns
  have hts := atoms_spec (ws := wsX6_counsel) B.pre
  have hown : s.vm.findClass RX6 = some m.cls := findClass_of_methodNamed B.named
  have hlocks := B.notSynchronized
  subst hsz
  have hD := hD0.self (sz := s.heap.size)
  generalize hAe : va_A [(h0, .inr (6, [.int 0, .ref kd, .ref mo, .ref st, .int 0, .ref ro, .ref tp, .int 0, .ref cd, .ref sr, .int 1, .int 0, .int 0, .ref ir, .ref ih, .ref ss, .ref sq, .ref ce, .ref lw, .int 40, .int 40, .int 0, .int 0, .ref wo, .ref he, .int 0, .int 0, .int 5, .ref sk, .ref na, .ref kp, .int 0, .int 0, .int 0, .int 0, .ref gb, .ref go, .ref fa, .ref ga, .int 0, .int 0, .ref vo]))] s.heap.size = A at hD ⊢
  have hA : ∀ q : Nat, s.heap.size ≤ q → A q := fun q h => by rw [← hAe]; exact Or.inr h
  have hS : va_S A s.heap s.heap [] := va_S.rf
  have hP : va_P G.1 vwCl [(h0, .inr (6, [.int 0, .ref kd, .ref mo, .ref st, .int 0, .ref ro, .ref tp, .int 0, .ref cd, .ref sr, .int 1, .int 0, .int 0, .ref ir, .ref ih, .ref ss, .ref sq, .ref ce, .ref lw, .int 40, .int 40, .int 0, .int 0, .ref wo, .ref he, .int 0, .int 0, .int 5, .ref sk, .ref na, .ref kp, .int 0, .int 0, .int 0, .int 0, .ref gb, .ref go, .ref fa, .ref ga, .int 0, .int 0, .ref vo]))] s.heap := hP
  have hD : va_D A [(h0, .inr (6, [.int 0, .ref kd, .ref mo, .ref st, .int 0, .ref ro, .ref tp, .int 0, .ref cd, .ref sr, .int 1, .int 0, .int 0, .ref ir, .ref ih, .ref ss, .ref sq, .ref ce, .ref lw, .int 40, .int 40, .int 0, .int 0, .ref wo, .ref he, .int 0, .int 0, .int 5, .ref sk, .ref na, .ref kp, .int 0, .int 0, .int 0, .int 0, .ref gb, .ref go, .ref fa, .ref ga, .int 0, .int 0, .ref vo]))] := hD
  have hl := lv_entry ([.ref h0, .int v0, .int v1, .int v2]) (n := 14) (Nat.le_of_ble_eq_true rfl)
  rw [lg_entry_eq]
  generalize (lg_sl ([.ref h0, .int v0, .int v1, .int v2]) ++ List.replicate (14 - (lg_sl ([.ref h0, .int v0, .int v1, .int v2])).length) Slot.unset).toArray = ls at hl ⊢
  have hl : lv_has ls 14 [(0, .ref h0), (1, .int v0), (2, .int v1), (3, .int v2)] := hl
  refine lv_aload_n hx hb dX6_counsel_0 rfl (lv_at hl 0 rfl) ?_
  refine lv_iload_n hx hb dX6_counsel_1 rfl (lv_at hl 1 rfl) ?_
  have hPc : va_P G.1 vwCl [(h0, .inr (6, [.int 0, .ref kd, .ref mo, .ref st, .int 0, .ref ro, .ref tp, .int 0, .ref cd, .ref sr, .int 1, .int 0, .int 0, .ref ir, .ref ih, .ref ss, .ref sq, .ref ce, .ref lw, .int 40, .int 40, .int 0, .int 0, .ref wo, .ref he, .int 0, .int 0, .int 5, .ref sk, .ref na, .ref kp, .int 0, .int 0, .int 0, .int 0, .ref gb, .ref go, .ref fa, .ref ga, .int 0, .int 0, .ref vo]))] s.heap := hP.sub [0] rfl
  have hDc : va_D A [(h0, .inr (6, [.int 0, .ref kd, .ref mo, .ref st, .int 0, .ref ro, .ref tp, .int 0, .ref cd, .ref sr, .int 1, .int 0, .int 0, .ref ir, .ref ih, .ref ss, .ref sq, .ref ce, .ref lw, .int 40, .int 40, .int 0, .int 0, .ref wo, .ref he, .int 0, .int 0, .int 5, .ref sk, .ref na, .ref kp, .int 0, .int 0, .int 0, .int 0, .ref gb, .ref go, .ref fa, .ref ga, .int 0, .int 0, .ref vo]))] := hD.sub [0] (by decide) rfl
  have hFc := va_free (wc := [(h0, .inr (6, [.int 0, .ref kd, .ref mo, .ref st, .int 0, .ref ro, .ref tp, .int 0, .ref cd, .ref sr, .int 1, .int 0, .int 0, .ref ir, .ref ih, .ref ss, .ref sq, .ref ce, .ref lw, .int 40, .int 40, .int 0, .int 0, .ref wo, .ref he, .int 0, .int 0, .int 5, .ref sk, .ref na, .ref kp, .int 0, .int 0, .int 0, .int 0, .ref gb, .ref go, .ref fa, .ref ga, .int 0, .int 0, .ref vo]))]) hD hS hA [0] rfl
  refine va_calli (va_runV (As := [.int v0]) (rest := []) ⟨hx, hb, hml, hown, hts⟩ (c_X6_isJudge_0 l G h0 kd mo st ro tp cd sr ir ih ss sq ce lw wo he sk na kp gb go fa ga vo v0 s.heap.size) (cwV 1 hts gX6_counsel_X6_isJudge rfl rfl rfl (by decide +kernel) ⟨Nat.le_of_ble_eq_true rfl, Nat.le_of_ble_eq_true rfl⟩) ⟨gPre_blind, va_recv hK hPc (ci := 6) (q0 := 0) rfl rfl, fun U hU hW => gPre_of hU hW hK hPc hDc⟩ rfl rfl hl.1 rfl (lv_room (Nat.le_of_ble_eq_true rfl)) dX6_counsel_2 ⟨Nat.le_of_ble_eq_true rfl, Nat.le_of_ble_eq_true rfl⟩) hS (fun q _ h => hFc q h) hFc (fun r_1 u t H locs ht hvm w_2 hB hz1 hk1 hS => ?_)
  obtain ⟨hP1, hK1, hD1⟩ := hB
  rw [ht] at hP1
  have hP1 : va_P G.1 vwCl [(h0, .inr (6, [.int 0, .ref kd, .ref mo, .ref st, .int 0, .ref ro, .ref tp, .int 0, .ref cd, .ref sr, .int 1, .int 0, .int 0, .ref ir, .ref ih, .ref ss, .ref sq, .ref ce, .ref lw, .int 40, .int 40, .int 0, .int 0, .ref wo, .ref he, .int 0, .int 0, .int 5, .ref sk, .ref na, .ref kp, .int 0, .int 0, .int 0, .int 0, .ref gb, .ref go, .ref fa, .ref ga, .int 0, .int 0, .ref vo]))] H := hP1
  have hD1 : va_D (va_A [(h0, .inr (6, [.int 0, .ref kd, .ref mo, .ref st, .int 0, .ref ro, .ref tp, .int 0, .ref cd, .ref sr, .int 1, .int 0, .int 0, .ref ir, .ref ih, .ref ss, .ref sq, .ref ce, .ref lw, .int 40, .int 40, .int 0, .int 0, .ref wo, .ref he, .int 0, .int 0, .int 5, .ref sk, .ref na, .ref kp, .int 0, .int 0, .int 0, .int 0, .ref gb, .ref go, .ref fa, .ref ga, .int 0, .int 0, .ref vo]))] s.heap.size) [(h0, .inr (6, [.int 0, .ref kd, .ref mo, .ref st, .int 0, .ref ro, .ref tp, .int 0, .ref cd, .ref sr, .int 1, .int 0, .int 0, .ref ir, .ref ih, .ref ss, .ref sq, .ref ce, .ref lw, .int 40, .int 40, .int 0, .int 0, .ref wo, .ref he, .int 0, .int 0, .int 5, .ref sk, .ref na, .ref kp, .int 0, .int 0, .int 0, .int 0, .ref gb, .ref go, .ref fa, .ref ga, .int 0, .int 0, .ref vo]))] := hD1
  have w_2 : r_1 = 0 := w_2
  obtain ⟨hP, hD⟩ := va_join (wr := []) (w1 := [(h0, .inr (6, [.int 0, .ref kd, .ref mo, .ref st, .int 0, .ref ro, .ref tp, .int 0, .ref cd, .ref sr, .int 1, .int 0, .int 0, .ref ir, .ref ih, .ref ss, .ref sq, .ref ce, .ref lw, .int 40, .int 40, .int 0, .int 0, .ref wo, .ref he, .int 0, .int 0, .int 5, .ref sk, .ref na, .ref kp, .int 0, .int 0, .int 0, .int 0, .ref gb, .ref go, .ref fa, .ref ga, .int 0, .int 0, .ref vo]))]) hP hD [0] [] rfl rfl (by decide) (by decide) hk1 hFc hP1 hD1
  have hP : va_P G.1 vwCl [(h0, .inr (6, [.int 0, .ref kd, .ref mo, .ref st, .int 0, .ref ro, .ref tp, .int 0, .ref cd, .ref sr, .int 1, .int 0, .int 0, .ref ir, .ref ih, .ref ss, .ref sq, .ref ce, .ref lw, .int 40, .int 40, .int 0, .int 0, .ref wo, .ref he, .int 0, .int 0, .int 5, .ref sk, .ref na, .ref kp, .int 0, .int 0, .int 0, .int 0, .ref gb, .ref go, .ref fa, .ref ga, .int 0, .int 0, .ref vo]))] H := hP
  have hD : va_D A [(h0, .inr (6, [.int 0, .ref kd, .ref mo, .ref st, .int 0, .ref ro, .ref tp, .int 0, .ref cd, .ref sr, .int 1, .int 0, .int 0, .ref ir, .ref ih, .ref ss, .ref sq, .ref ce, .ref lw, .int 40, .int 40, .int 0, .int 0, .ref wo, .ref he, .int 0, .int 0, .int 5, .ref sk, .ref na, .ref kp, .int 0, .int 0, .int 0, .int 0, .ref gb, .ref go, .ref fa, .ref ga, .int 0, .int 0, .ref vo]))] := hD
  have w_2 : r_1 = 0 := w_2
  subst w_2
  refine lv_if_ne (tgt := 11) hx hb dX6_counsel_5 (by decide) (fun c_3 => ?_) (fun c_3 => ?_)
  · exact absurd (by decide) c_3
  refine lv_bipush (v := -5) hx hb dX6_counsel_8 (by decide) ?_
  have hpost : (fun (r : Int32) (u : Unit) => match u with | _ => r = -5) (-5) () := pp_X6_counsel_0_1 v0 v1 v2 
  exact W.iret (v := (-5)) hx hb hr (fun t ht hW => ⟨⟨(-5), (), rfl, hpost, trivial⟩, hS.F ht⟩) hS.2.2 dX6_counsel_10
theorem pp_X6_drawn_0_1 (v0 : Int32) (v1 : Int32) (v2 : Int32) (v3 : Int32) (v4 : Int32) : ((-5) : Int32) = -5 := by
  first
    | rfl
    | exact bz_pos (by (first | omega | (simp only [Int32.lt_iff_toInt_lt, Int32.le_iff_toInt_le, ← Int32.toInt_inj, Int32.reduceToInt] at * <;> omega)))
    | exact bz_neg (by (first | omega | (simp only [Int32.lt_iff_toInt_lt, Int32.le_iff_toInt_le, ← Int32.toInt_inj, Int32.reduceToInt] at * <;> omega)))
    | ((repeat' split) <;> first | rfl | assumption | (symm; assumption) | (exfalso; (first | omega | (simp only [Int32.lt_iff_toInt_lt, Int32.le_iff_toInt_le, ← Int32.toInt_inj, Int32.reduceToInt] at * <;> omega))))
abbrev q_X6_drawn_0 (G : gG) (h0 kd mo st ro tp cd sr ir ih ss sq ce lw wo he sk na kp gb go fa ga vo : Nat) (v0 : Int32) (v1 : Int32) (v2 : Int32) (v3 : Int32) (v4 : Int32) (A : Nat → Prop) : Array Value → State → Outcome → State → Prop := va_Qi (fun (r : Int32) (u : Unit) => match u with | _ => r = -5) (fun (u : Unit) t => match u with | _ => True) A
set_option maxHeartbeats 4000000 in
set_option maxRecDepth 100000 in
theorem c_X6_drawn_0 (l : Launch) (G : gG) (h0 kd mo st ro tp cd sr ir ih ss sq ce lw wo he sk na kp gb go fa ga vo : Nat) (v0 : Int32) (v1 : Int32) (v2 : Int32) (v3 : Int32) (v4 : Int32) (sz : Nat) : Met l yX6_drawn wsX6_drawn ({ frames := 2, cells := 0, slots := 0, locals := 43 }) (gPre G [.ref h0, .int v0, .int v1, .int v2, .int v3, .int v4] [(h0, .inr (6, [.int 0, .ref kd, .ref mo, .ref st, .int 0, .ref ro, .ref tp, .int 0, .ref cd, .ref sr, .int 1, .int 0, .int 0, .ref ir, .ref ih, .ref ss, .ref sq, .ref ce, .ref lw, .int 40, .int 40, .int 0, .int 0, .ref wo, .ref he, .int 0, .int 0, .int 5, .ref sk, .ref na, .ref kp, .int 0, .int 0, .int 0, .int 0, .ref gb, .ref go, .ref fa, .ref ga, .int 0, .int 0, .ref vo]))] sz) (q_X6_drawn_0 G h0 kd mo st ro tp cd sr ir ih ss sq ce lw wo he sk na kp gb go fa ga vo v0 v1 v2 v3 v4 (va_A [(h0, .inr (6, [.int 0, .ref kd, .ref mo, .ref st, .int 0, .ref ro, .ref tp, .int 0, .ref cd, .ref sr, .int 1, .int 0, .int 0, .ref ir, .ref ih, .ref ss, .ref sq, .ref ce, .ref lw, .int 40, .int 40, .int 0, .int 0, .ref wo, .ref he, .int 0, .int 0, .int 5, .ref sk, .ref na, .ref kp, .int 0, .int 0, .int 0, .int 0, .ref gb, .ref go, .ref fa, .ref ga, .int 0, .int 0, .ref vo]))] sz)) 0 0 (va_A [(h0, .inr (6, [.int 0, .ref kd, .ref mo, .ref st, .int 0, .ref ro, .ref tp, .int 0, .ref cd, .ref sr, .int 1, .int 0, .int 0, .ref ir, .ref ih, .ref ss, .ref sq, .ref ce, .ref lw, .int 40, .int 40, .int 0, .int 0, .ref wo, .ref he, .int 0, .int 0, .int 5, .ref sk, .ref na, .ref kp, .int 0, .int 0, .int 0, .int 0, .ref gb, .ref go, .ref fa, .ref ga, .int 0, .int 0, .ref vo]))] sz) := by
  refine Met.ofW (cc := cX6_drawn) (maxL := 6) (ret := (some .int)) (by decide) rfl ?_
  intro p e s m args below meth c s₁ B hml hv
  obtain ⟨rfl, hsz, hP, hK, hD0⟩ := hv
  have hx := B.exec
  have hb := B.bytes
  have hr := B.returns
  have hts := atoms_spec (ws := wsX6_drawn) B.pre
  have hown : s.vm.findClass RX6 = some m.cls := findClass_of_methodNamed B.named
  have hlocks := B.notSynchronized
  subst hsz
  have hD := hD0.self (sz := s.heap.size)
  generalize hAe : va_A [(h0, .inr (6, [.int 0, .ref kd, .ref mo, .ref st, .int 0, .ref ro, .ref tp, .int 0, .ref cd, .ref sr, .int 1, .int 0, .int 0, .ref ir, .ref ih, .ref ss, .ref sq, .ref ce, .ref lw, .int 40, .int 40, .int 0, .int 0, .ref wo, .ref he, .int 0, .int 0, .int 5, .ref sk, .ref na, .ref kp, .int 0, .int 0, .int 0, .int 0, .ref gb, .ref go, .ref fa, .ref ga, .int 0, .int 0, .ref vo]))] s.heap.size = A at hD ⊢
  have hA : ∀ q : Nat, s.heap.size ≤ q → A q := fun q h => by rw [← hAe]; exact Or.inr h
  have hS : va_S A s.heap s.heap [] := va_S.rf
  have hP : va_P G.1 vwCl [(h0, .inr (6, [.int 0, .ref kd, .ref mo, .ref st, .int 0, .ref ro, .ref tp, .int 0, .ref cd, .ref sr, .int 1, .int 0, .int 0, .ref ir, .ref ih, .ref ss, .ref sq, .ref ce, .ref lw, .int 40, .int 40, .int 0, .int 0, .ref wo, .ref he, .int 0, .int 0, .int 5, .ref sk, .ref na, .ref kp, .int 0, .int 0, .int 0, .int 0, .ref gb, .ref go, .ref fa, .ref ga, .int 0, .int 0, .ref vo]))] s.heap := hP
  have hD : va_D A [(h0, .inr (6, [.int 0, .ref kd, .ref mo, .ref st, .int 0, .ref ro, .ref tp, .int 0, .ref cd, .ref sr, .int 1, .int 0, .int 0, .ref ir, .ref ih, .ref ss, .ref sq, .ref ce, .ref lw, .int 40, .int 40, .int 0, .int 0, .ref wo, .ref he, .int 0, .int 0, .int 5, .ref sk, .ref na, .ref kp, .int 0, .int 0, .int 0, .int 0, .ref gb, .ref go, .ref fa, .ref ga, .int 0, .int 0, .ref vo]))] := hD
  have hl := lv_entry ([.ref h0, .int v0, .int v1, .int v2, .int v3, .int v4]) (n := 6) (Nat.le_of_ble_eq_true rfl)
  rw [lg_entry_eq]
  generalize (lg_sl ([.ref h0, .int v0, .int v1, .int v2, .int v3, .int v4]) ++ List.replicate (6 - (lg_sl ([.ref h0, .int v0, .int v1, .int v2, .int v3, .int v4])).length) Slot.unset).toArray = ls at hl ⊢
  have hl : lv_has ls 6 [(0, .ref h0), (1, .int v0), (2, .int v1), (3, .int v2), (4, .int v3), (5, .int v4)] := hl
  refine lv_aload_n hx hb dX6_drawn_0 rfl (lv_at hl 0 rfl) ?_
  refine lv_iload_n hx hb dX6_drawn_1 rfl (lv_at hl 2 rfl) ?_
  have hPc : va_P G.1 vwCl [(h0, .inr (6, [.int 0, .ref kd, .ref mo, .ref st, .int 0, .ref ro, .ref tp, .int 0, .ref cd, .ref sr, .int 1, .int 0, .int 0, .ref ir, .ref ih, .ref ss, .ref sq, .ref ce, .ref lw, .int 40, .int 40, .int 0, .int 0, .ref wo, .ref he, .int 0, .int 0, .int 5, .ref sk, .ref na, .ref kp, .int 0, .int 0, .int 0, .int 0, .ref gb, .ref go, .ref fa, .ref ga, .int 0, .int 0, .ref vo]))] s.heap := hP.sub [0] rfl
  have hDc : va_D A [(h0, .inr (6, [.int 0, .ref kd, .ref mo, .ref st, .int 0, .ref ro, .ref tp, .int 0, .ref cd, .ref sr, .int 1, .int 0, .int 0, .ref ir, .ref ih, .ref ss, .ref sq, .ref ce, .ref lw, .int 40, .int 40, .int 0, .int 0, .ref wo, .ref he, .int 0, .int 0, .int 5, .ref sk, .ref na, .ref kp, .int 0, .int 0, .int 0, .int 0, .ref gb, .ref go, .ref fa, .ref ga, .int 0, .int 0, .ref vo]))] := hD.sub [0] (by decide) rfl
  have hFc := va_free (wc := [(h0, .inr (6, [.int 0, .ref kd, .ref mo, .ref st, .int 0, .ref ro, .ref tp, .int 0, .ref cd, .ref sr, .int 1, .int 0, .int 0, .ref ir, .ref ih, .ref ss, .ref sq, .ref ce, .ref lw, .int 40, .int 40, .int 0, .int 0, .ref wo, .ref he, .int 0, .int 0, .int 5, .ref sk, .ref na, .ref kp, .int 0, .int 0, .int 0, .int 0, .ref gb, .ref go, .ref fa, .ref ga, .int 0, .int 0, .ref vo]))]) hD hS hA [0] rfl
  refine va_calli (va_runV (As := [.int v1]) (rest := []) ⟨hx, hb, hml, hown, hts⟩ (c_X6_isJudge_0 l G h0 kd mo st ro tp cd sr ir ih ss sq ce lw wo he sk na kp gb go fa ga vo v1 s.heap.size) (cwV 1 hts gX6_drawn_X6_isJudge rfl rfl rfl (by decide +kernel) ⟨Nat.le_of_ble_eq_true rfl, Nat.le_of_ble_eq_true rfl⟩) ⟨gPre_blind, va_recv hK hPc (ci := 6) (q0 := 0) rfl rfl, fun U hU hW => gPre_of hU hW hK hPc hDc⟩ rfl rfl hl.1 rfl (lv_room (Nat.le_of_ble_eq_true rfl)) dX6_drawn_2 ⟨Nat.le_of_ble_eq_true rfl, Nat.le_of_ble_eq_true rfl⟩) hS (fun q _ h => hFc q h) hFc (fun r_1 u t H locs ht hvm w_2 hB hz1 hk1 hS => ?_)
  obtain ⟨hP1, hK1, hD1⟩ := hB
  rw [ht] at hP1
  have hP1 : va_P G.1 vwCl [(h0, .inr (6, [.int 0, .ref kd, .ref mo, .ref st, .int 0, .ref ro, .ref tp, .int 0, .ref cd, .ref sr, .int 1, .int 0, .int 0, .ref ir, .ref ih, .ref ss, .ref sq, .ref ce, .ref lw, .int 40, .int 40, .int 0, .int 0, .ref wo, .ref he, .int 0, .int 0, .int 5, .ref sk, .ref na, .ref kp, .int 0, .int 0, .int 0, .int 0, .ref gb, .ref go, .ref fa, .ref ga, .int 0, .int 0, .ref vo]))] H := hP1
  have hD1 : va_D (va_A [(h0, .inr (6, [.int 0, .ref kd, .ref mo, .ref st, .int 0, .ref ro, .ref tp, .int 0, .ref cd, .ref sr, .int 1, .int 0, .int 0, .ref ir, .ref ih, .ref ss, .ref sq, .ref ce, .ref lw, .int 40, .int 40, .int 0, .int 0, .ref wo, .ref he, .int 0, .int 0, .int 5, .ref sk, .ref na, .ref kp, .int 0, .int 0, .int 0, .int 0, .ref gb, .ref go, .ref fa, .ref ga, .int 0, .int 0, .ref vo]))] s.heap.size) [(h0, .inr (6, [.int 0, .ref kd, .ref mo, .ref st, .int 0, .ref ro, .ref tp, .int 0, .ref cd, .ref sr, .int 1, .int 0, .int 0, .ref ir, .ref ih, .ref ss, .ref sq, .ref ce, .ref lw, .int 40, .int 40, .int 0, .int 0, .ref wo, .ref he, .int 0, .int 0, .int 5, .ref sk, .ref na, .ref kp, .int 0, .int 0, .int 0, .int 0, .ref gb, .ref go, .ref fa, .ref ga, .int 0, .int 0, .ref vo]))] := hD1
  have w_2 : r_1 = 0 := w_2
  obtain ⟨hP, hD⟩ := va_join (wr := []) (w1 := [(h0, .inr (6, [.int 0, .ref kd, .ref mo, .ref st, .int 0, .ref ro, .ref tp, .int 0, .ref cd, .ref sr, .int 1, .int 0, .int 0, .ref ir, .ref ih, .ref ss, .ref sq, .ref ce, .ref lw, .int 40, .int 40, .int 0, .int 0, .ref wo, .ref he, .int 0, .int 0, .int 5, .ref sk, .ref na, .ref kp, .int 0, .int 0, .int 0, .int 0, .ref gb, .ref go, .ref fa, .ref ga, .int 0, .int 0, .ref vo]))]) hP hD [0] [] rfl rfl (by decide) (by decide) hk1 hFc hP1 hD1
  have hP : va_P G.1 vwCl [(h0, .inr (6, [.int 0, .ref kd, .ref mo, .ref st, .int 0, .ref ro, .ref tp, .int 0, .ref cd, .ref sr, .int 1, .int 0, .int 0, .ref ir, .ref ih, .ref ss, .ref sq, .ref ce, .ref lw, .int 40, .int 40, .int 0, .int 0, .ref wo, .ref he, .int 0, .int 0, .int 5, .ref sk, .ref na, .ref kp, .int 0, .int 0, .int 0, .int 0, .ref gb, .ref go, .ref fa, .ref ga, .int 0, .int 0, .ref vo]))] H := hP
  have hD : va_D A [(h0, .inr (6, [.int 0, .ref kd, .ref mo, .ref st, .int 0, .ref ro, .ref tp, .int 0, .ref cd, .ref sr, .int 1, .int 0, .int 0, .ref ir, .ref ih, .ref ss, .ref sq, .ref ce, .ref lw, .int 40, .int 40, .int 0, .int 0, .ref wo, .ref he, .int 0, .int 0, .int 5, .ref sk, .ref na, .ref kp, .int 0, .int 0, .int 0, .int 0, .ref gb, .ref go, .ref fa, .ref ga, .int 0, .int 0, .ref vo]))] := hD
  have w_2 : r_1 = 0 := w_2
  subst w_2
  refine lv_if_eq (tgt := 16) hx hb dX6_drawn_5 (by decide) (fun c_3 => ?_) (fun c_3 => ?_)
  rotate_left
  · exact absurd (by decide) c_3
  refine lv_bipush (v := -5) hx hb dX6_drawn_16 (by decide) ?_
  have hpost : (fun (r : Int32) (u : Unit) => match u with | _ => r = -5) (-5) () := pp_X6_drawn_0_1 v0 v1 v2 v3 v4 
  exact W.iret (v := (-5)) hx hb hr (fun t ht hW => ⟨⟨(-5), (), rfl, hpost, trivial⟩, hS.F ht⟩) hS.2.2 dX6_drawn_18
theorem pp_X6_odds_0_1 (v0 : Int32) (v1 : Int32) (v2 : Int32) (v3 : Int32) (v4 : Int32) (v5 : Int32) (n_5 : ¬ (0 ≤ v0 ∧ v0 ≤ 99999)) : ((-4611686018427387904) : Int64) = -4611686018427387904 := by
  first
    | rfl
    | exact bz_pos (by (first | omega | (simp only [Int32.lt_iff_toInt_lt, Int32.le_iff_toInt_le, ← Int32.toInt_inj, Int32.reduceToInt] at * <;> omega)))
    | exact bz_neg (by (first | omega | (simp only [Int32.lt_iff_toInt_lt, Int32.le_iff_toInt_le, ← Int32.toInt_inj, Int32.reduceToInt] at * <;> omega)))
    | ((repeat' split) <;> first | rfl | assumption | (symm; assumption) | (exfalso; (first | omega | (simp only [Int32.lt_iff_toInt_lt, Int32.le_iff_toInt_le, ← Int32.toInt_inj, Int32.reduceToInt] at * <;> omega))))
theorem pp_X6_odds_0_2 (v0 : Int32) (v1 : Int32) (v2 : Int32) (v3 : Int32) (v4 : Int32) (v5 : Int32) (p_4 : 0 ≤ v0 ∧ v0 ≤ 99999) (n_11 : ¬ (1 ≤ v1 ∧ v1 ≤ 40)) : ((-4611686018427387904) : Int64) = -4611686018427387904 := by
  first
    | rfl
    | exact bz_pos (by (first | omega | (simp only [Int32.lt_iff_toInt_lt, Int32.le_iff_toInt_le, ← Int32.toInt_inj, Int32.reduceToInt] at * <;> omega)))
    | exact bz_neg (by (first | omega | (simp only [Int32.lt_iff_toInt_lt, Int32.le_iff_toInt_le, ← Int32.toInt_inj, Int32.reduceToInt] at * <;> omega)))
    | ((repeat' split) <;> first | rfl | assumption | (symm; assumption) | (exfalso; (first | omega | (simp only [Int32.lt_iff_toInt_lt, Int32.le_iff_toInt_le, ← Int32.toInt_inj, Int32.reduceToInt] at * <;> omega))))
theorem pp_X6_odds_0_3 (v0 : Int32) (v1 : Int32) (v2 : Int32) (v3 : Int32) (v4 : Int32) (v5 : Int32) (p_4 : 0 ≤ v0 ∧ v0 ≤ 99999) (p_10 : 1 ≤ v1 ∧ v1 ≤ 40) : ((-4611686018427387904) : Int64) = -4611686018427387904 := by
  first
    | rfl
    | exact bz_pos (by (first | omega | (simp only [Int32.lt_iff_toInt_lt, Int32.le_iff_toInt_le, ← Int32.toInt_inj, Int32.reduceToInt] at * <;> omega)))
    | exact bz_neg (by (first | omega | (simp only [Int32.lt_iff_toInt_lt, Int32.le_iff_toInt_le, ← Int32.toInt_inj, Int32.reduceToInt] at * <;> omega)))
    | ((repeat' split) <;> first | rfl | assumption | (symm; assumption) | (exfalso; (first | omega | (simp only [Int32.lt_iff_toInt_lt, Int32.le_iff_toInt_le, ← Int32.toInt_inj, Int32.reduceToInt] at * <;> omega))))
abbrev q_X6_odds_0 (G : gG) (h0 kd mo st ro tp cd sr ir ih ss sq ce lw wo he sk na kp gb go fa ga vo : Nat) (v0 : Int32) (v1 : Int32) (v2 : Int32) (v3 : Int32) (v4 : Int32) (v5 : Int32) (A : Nat → Prop) : Array Value → State → Outcome → State → Prop := va_Ql (fun (r : Int64) (u : Unit) => match u with | _ => r = -4611686018427387904) (fun (u : Unit) t => match u with | _ => True) A
set_option maxHeartbeats 4000000 in
set_option maxRecDepth 100000 in
theorem c_X6_odds_0 (l : Launch) (G : gG) (h0 kd mo st ro tp cd sr ir ih ss sq ce lw wo he sk na kp gb go fa ga vo : Nat) (v0 : Int32) (v1 : Int32) (v2 : Int32) (v3 : Int32) (v4 : Int32) (v5 : Int32) (sz : Nat) : Met l yX6_odds wsX6_odds ({ frames := 2, cells := 0, slots := 0, locals := 43 }) (gPre G [.ref h0, .int v0, .int v1, .int v2, .int v3, .int v4, .int v5] [(h0, .inr (6, [.int 0, .ref kd, .ref mo, .ref st, .int 0, .ref ro, .ref tp, .int 0, .ref cd, .ref sr, .int 1, .int 0, .int 0, .ref ir, .ref ih, .ref ss, .ref sq, .ref ce, .ref lw, .int 40, .int 40, .int 0, .int 0, .ref wo, .ref he, .int 0, .int 0, .int 5, .ref sk, .ref na, .ref kp, .int 0, .int 0, .int 0, .int 0, .ref gb, .ref go, .ref fa, .ref ga, .int 0, .int 0, .ref vo]))] sz) (q_X6_odds_0 G h0 kd mo st ro tp cd sr ir ih ss sq ce lw wo he sk na kp gb go fa ga vo v0 v1 v2 v3 v4 v5 (va_A [(h0, .inr (6, [.int 0, .ref kd, .ref mo, .ref st, .int 0, .ref ro, .ref tp, .int 0, .ref cd, .ref sr, .int 1, .int 0, .int 0, .ref ir, .ref ih, .ref ss, .ref sq, .ref ce, .ref lw, .int 40, .int 40, .int 0, .int 0, .ref wo, .ref he, .int 0, .int 0, .int 5, .ref sk, .ref na, .ref kp, .int 0, .int 0, .int 0, .int 0, .ref gb, .ref go, .ref fa, .ref ga, .int 0, .int 0, .ref vo]))] sz)) 0 0 (va_A [(h0, .inr (6, [.int 0, .ref kd, .ref mo, .ref st, .int 0, .ref ro, .ref tp, .int 0, .ref cd, .ref sr, .int 1, .int 0, .int 0, .ref ir, .ref ih, .ref ss, .ref sq, .ref ce, .ref lw, .int 40, .int 40, .int 0, .int 0, .ref wo, .ref he, .int 0, .int 0, .int 5, .ref sk, .ref na, .ref kp, .int 0, .int 0, .int 0, .int 0, .ref gb, .ref go, .ref fa, .ref ga, .int 0, .int 0, .ref vo]))] sz) := by
  refine Met.ofW (cc := cX6_odds) (maxL := 11) (ret := (some .long)) (by decide) rfl ?_
  intro p e s m args below meth c s₁ B hml hv
  obtain ⟨rfl, hsz, hP, hK, hD0⟩ := hv
  have hx := B.exec
  have hb := B.bytes
  have hr := B.returns
  have hts := atoms_spec (ws := wsX6_odds) B.pre
  have hown : s.vm.findClass RX6 = some m.cls := findClass_of_methodNamed B.named
  have hlocks := B.notSynchronized
  subst hsz
  have hD := hD0.self (sz := s.heap.size)
  generalize hAe : va_A [(h0, .inr (6, [.int 0, .ref kd, .ref mo, .ref st, .int 0, .ref ro, .ref tp, .int 0, .ref cd, .ref sr, .int 1, .int 0, .int 0, .ref ir, .ref ih, .ref ss, .ref sq, .ref ce, .ref lw, .int 40, .int 40, .int 0, .int 0, .ref wo, .ref he, .int 0, .int 0, .int 5, .ref sk, .ref na, .ref kp, .int 0, .int 0, .int 0, .int 0, .ref gb, .ref go, .ref fa, .ref ga, .int 0, .int 0, .ref vo]))] s.heap.size = A at hD ⊢
  have hA : ∀ q : Nat, s.heap.size ≤ q → A q := fun q h => by rw [← hAe]; exact Or.inr h
  have hS : va_S A s.heap s.heap [] := va_S.rf
  have hP : va_P G.1 vwCl [(h0, .inr (6, [.int 0, .ref kd, .ref mo, .ref st, .int 0, .ref ro, .ref tp, .int 0, .ref cd, .ref sr, .int 1, .int 0, .int 0, .ref ir, .ref ih, .ref ss, .ref sq, .ref ce, .ref lw, .int 40, .int 40, .int 0, .int 0, .ref wo, .ref he, .int 0, .int 0, .int 5, .ref sk, .ref na, .ref kp, .int 0, .int 0, .int 0, .int 0, .ref gb, .ref go, .ref fa, .ref ga, .int 0, .int 0, .ref vo]))] s.heap := hP
  have hD : va_D A [(h0, .inr (6, [.int 0, .ref kd, .ref mo, .ref st, .int 0, .ref ro, .ref tp, .int 0, .ref cd, .ref sr, .int 1, .int 0, .int 0, .ref ir, .ref ih, .ref ss, .ref sq, .ref ce, .ref lw, .int 40, .int 40, .int 0, .int 0, .ref wo, .ref he, .int 0, .int 0, .int 5, .ref sk, .ref na, .ref kp, .int 0, .int 0, .int 0, .int 0, .ref gb, .ref go, .ref fa, .ref ga, .int 0, .int 0, .ref vo]))] := hD
  have hl := lv_entry ([.ref h0, .int v0, .int v1, .int v2, .int v3, .int v4, .int v5]) (n := 11) (Nat.le_of_ble_eq_true rfl)
  rw [lg_entry_eq]
  generalize (lg_sl ([.ref h0, .int v0, .int v1, .int v2, .int v3, .int v4, .int v5]) ++ List.replicate (11 - (lg_sl ([.ref h0, .int v0, .int v1, .int v2, .int v3, .int v4, .int v5])).length) Slot.unset).toArray = ls at hl ⊢
  have hl : lv_has ls 11 [(0, .ref h0), (1, .int v0), (2, .int v1), (3, .int v2), (4, .int v3), (5, .int v4), (6, .int v5)] := hl
  refine lv_iload_n hx hb dX6_odds_0 rfl (lv_at hl 1 rfl) ?_
  refine lv_iconst (v := 0) hx hb dX6_odds_1 (by decide) ?_
  refine lv_ldc hx hb hown (hts (.constant RX6 192 (99999)) (by decide +kernel)) dX6_odds_2 ?_
  have hPc : va_P G.1 vwCl [] s.heap := hP.sub [] rfl
  have hDc : va_D A [] := hD.sub [] (by decide) rfl
  have hFc := va_free (wc := []) hD hS hA [] rfl
  refine va_calli (va_runS (As := [.int v0, .int 0, .int 99999]) (rest := []) ⟨hx, hb, hml, hown, hts⟩ (c_X6_in l G v0 0 99999 s.heap.size) (va_cwS 3 hts gX6_odds_X6_in rfl rfl rfl (by decide +kernel) ⟨Nat.le_of_ble_eq_true rfl, Nat.le_of_ble_eq_true rfl⟩) ⟨gPre_blind, fun U hU hW => gPre_of hU hW hK hPc hDc⟩ rfl rfl hl.1 rfl (lv_room (Nat.le_of_ble_eq_true rfl)) dX6_odds_4 ⟨Nat.le_of_ble_eq_true rfl, Nat.le_of_ble_eq_true rfl⟩) hS (fun q _ h => hFc q h) hFc (fun r_1 u t H locs ht hvm w_2 hB hz1 hk1 hS => ?_)
  obtain ⟨hP1, hK1, hD1⟩ := hB
  rw [ht] at hP1
  have hP1 : va_P G.1 vwCl [] H := hP1
  have hD1 : va_D (va_A [] s.heap.size) [] := hD1
  have w_2 : r_1 = bz (decide (0 ≤ v0 ∧ v0 ≤ 99999)) := w_2
  obtain ⟨hP, hD⟩ := va_join (wr := [(h0, .inr (6, [.int 0, .ref kd, .ref mo, .ref st, .int 0, .ref ro, .ref tp, .int 0, .ref cd, .ref sr, .int 1, .int 0, .int 0, .ref ir, .ref ih, .ref ss, .ref sq, .ref ce, .ref lw, .int 40, .int 40, .int 0, .int 0, .ref wo, .ref he, .int 0, .int 0, .int 5, .ref sk, .ref na, .ref kp, .int 0, .int 0, .int 0, .int 0, .ref gb, .ref go, .ref fa, .ref ga, .int 0, .int 0, .ref vo]))]) (w1 := []) hP hD [] [0] rfl rfl (by decide) (by decide) hk1 hFc hP1 hD1
  have hP : va_P G.1 vwCl [(h0, .inr (6, [.int 0, .ref kd, .ref mo, .ref st, .int 0, .ref ro, .ref tp, .int 0, .ref cd, .ref sr, .int 1, .int 0, .int 0, .ref ir, .ref ih, .ref ss, .ref sq, .ref ce, .ref lw, .int 40, .int 40, .int 0, .int 0, .ref wo, .ref he, .int 0, .int 0, .int 5, .ref sk, .ref na, .ref kp, .int 0, .int 0, .int 0, .int 0, .ref gb, .ref go, .ref fa, .ref ga, .int 0, .int 0, .ref vo]))] H := hP
  have hD : va_D A [(h0, .inr (6, [.int 0, .ref kd, .ref mo, .ref st, .int 0, .ref ro, .ref tp, .int 0, .ref cd, .ref sr, .int 1, .int 0, .int 0, .ref ir, .ref ih, .ref ss, .ref sq, .ref ce, .ref lw, .int 40, .int 40, .int 0, .int 0, .ref wo, .ref he, .int 0, .int 0, .int 5, .ref sk, .ref na, .ref kp, .int 0, .int 0, .int 0, .int 0, .ref gb, .ref go, .ref fa, .ref ga, .int 0, .int 0, .ref vo]))] := hD
  refine lv_if_eq (tgt := 59) hx hb dX6_odds_7 (by decide) (fun c_3 => ?_) (fun c_3 => ?_)
  · skip
    have n_5 : ¬ (0 ≤ v0 ∧ v0 ≤ 99999) := of_decide_eq_false (bz_eq w_2 c_3)
    refine lv_iconst (v := 0) hx hb dX6_odds_59 (by decide) ?_
    refine lv_istore (lv' := [(7, .int 0), (0, .ref h0), (1, .int v0), (2, .int v1), (3, .int v2), (4, .int v3), (5, .int v4), (6, .int v5)]) hx hb dX6_odds_60 hl (by decide) rfl (fun ls hl => ?_)
    refine lv_iload hx hb dX6_odds_62 (lv_at hl 0 rfl) ?_
    refine lv_if_ne (tgt := 71) hx hb dX6_odds_64 (by decide) (fun c_6 => ?_) (fun c_6 => ?_)
    · exact absurd (by decide) c_6
    refine lv_ldc2 hx hb hown (hts (.constantLong RX6 268 (-4611686018427387904)) (by decide +kernel)) dX6_odds_67 ?_
    have hpost : (fun (r : Int64) (u : Unit) => match u with | _ => r = -4611686018427387904) (-4611686018427387904) () := pp_X6_odds_0_1 v0 v1 v2 v3 v4 v5 n_5
    exact W.lret (v := (-4611686018427387904)) hx hb hr (fun t ht hW => ⟨⟨(-4611686018427387904), (), rfl, hpost, trivial⟩, hS.F ht⟩) hS.2.2 dX6_odds_70
  · skip
    have p_4 : 0 ≤ v0 ∧ v0 ≤ 99999 := of_decide_eq_true (bz_ne w_2 c_3)
    refine lv_iload_n hx hb dX6_odds_10 rfl (lv_at hl 2 rfl) ?_
    refine lv_iconst (v := 1) hx hb dX6_odds_11 (by decide) ?_
    refine lv_bipush (v := 40) hx hb dX6_odds_12 (by decide) ?_
    have hPc : va_P G.1 vwCl [] H := hP.sub [] rfl
    have hDc : va_D A [] := hD.sub [] (by decide) rfl
    have hFc := va_free (wc := []) hD hS hA [] rfl
    refine va_calli (va_runS (As := [.int v1, .int 1, .int 40]) (rest := []) ⟨hx, hb, hml, hown, hts⟩ (c_X6_in l G v1 1 40 H.size) (va_cwS 3 hts gX6_odds_X6_in rfl rfl rfl (by decide +kernel) ⟨Nat.le_of_ble_eq_true rfl, Nat.le_of_ble_eq_true rfl⟩) ⟨gPre_blind, fun U hU hW => gPre_of hU hW hK hPc hDc⟩ rfl rfl hl.1 rfl (lv_room (Nat.le_of_ble_eq_true rfl)) dX6_odds_14 ⟨Nat.le_of_ble_eq_true rfl, Nat.le_of_ble_eq_true rfl⟩) hS (fun q _ h => hFc q h) hFc (fun r_7 u t H locs ht hvm w_8 hB hz1 hk1 hS => ?_)
    obtain ⟨hP1, hK1, hD1⟩ := hB
    rw [ht] at hP1
    have hP1 : va_P G.1 vwCl [] H := hP1
    have hD1 : va_D (va_A [] _) [] := hD1
    have w_8 : r_7 = bz (decide (1 ≤ v1 ∧ v1 ≤ 40)) := w_8
    obtain ⟨hP, hD⟩ := va_join (wr := [(h0, .inr (6, [.int 0, .ref kd, .ref mo, .ref st, .int 0, .ref ro, .ref tp, .int 0, .ref cd, .ref sr, .int 1, .int 0, .int 0, .ref ir, .ref ih, .ref ss, .ref sq, .ref ce, .ref lw, .int 40, .int 40, .int 0, .int 0, .ref wo, .ref he, .int 0, .int 0, .int 5, .ref sk, .ref na, .ref kp, .int 0, .int 0, .int 0, .int 0, .ref gb, .ref go, .ref fa, .ref ga, .int 0, .int 0, .ref vo]))]) (w1 := []) hP hD [] [0] rfl rfl (by decide) (by decide) hk1 hFc hP1 hD1
    have hP : va_P G.1 vwCl [(h0, .inr (6, [.int 0, .ref kd, .ref mo, .ref st, .int 0, .ref ro, .ref tp, .int 0, .ref cd, .ref sr, .int 1, .int 0, .int 0, .ref ir, .ref ih, .ref ss, .ref sq, .ref ce, .ref lw, .int 40, .int 40, .int 0, .int 0, .ref wo, .ref he, .int 0, .int 0, .int 5, .ref sk, .ref na, .ref kp, .int 0, .int 0, .int 0, .int 0, .ref gb, .ref go, .ref fa, .ref ga, .int 0, .int 0, .ref vo]))] H := hP
    have hD : va_D A [(h0, .inr (6, [.int 0, .ref kd, .ref mo, .ref st, .int 0, .ref ro, .ref tp, .int 0, .ref cd, .ref sr, .int 1, .int 0, .int 0, .ref ir, .ref ih, .ref ss, .ref sq, .ref ce, .ref lw, .int 40, .int 40, .int 0, .int 0, .ref wo, .ref he, .int 0, .int 0, .int 5, .ref sk, .ref na, .ref kp, .int 0, .int 0, .int 0, .int 0, .ref gb, .ref go, .ref fa, .ref ga, .int 0, .int 0, .ref vo]))] := hD
    refine lv_if_eq (tgt := 59) hx hb dX6_odds_17 (by decide) (fun c_9 => ?_) (fun c_9 => ?_)
    · skip
      have n_11 : ¬ (1 ≤ v1 ∧ v1 ≤ 40) := of_decide_eq_false (bz_eq w_8 c_9)
      refine lv_iconst (v := 0) hx hb dX6_odds_59 (by decide) ?_
      refine lv_istore (lv' := [(7, .int 0), (0, .ref h0), (1, .int v0), (2, .int v1), (3, .int v2), (4, .int v3), (5, .int v4), (6, .int v5)]) hx hb dX6_odds_60 hl (by decide) rfl (fun ls hl => ?_)
      refine lv_iload hx hb dX6_odds_62 (lv_at hl 0 rfl) ?_
      refine lv_if_ne (tgt := 71) hx hb dX6_odds_64 (by decide) (fun c_12 => ?_) (fun c_12 => ?_)
      · exact absurd (by decide) c_12
      refine lv_ldc2 hx hb hown (hts (.constantLong RX6 268 (-4611686018427387904)) (by decide +kernel)) dX6_odds_67 ?_
      have hpost : (fun (r : Int64) (u : Unit) => match u with | _ => r = -4611686018427387904) (-4611686018427387904) () := pp_X6_odds_0_2 v0 v1 v2 v3 v4 v5 p_4 n_11
      exact W.lret (v := (-4611686018427387904)) hx hb hr (fun t ht hW => ⟨⟨(-4611686018427387904), (), rfl, hpost, trivial⟩, hS.F ht⟩) hS.2.2 dX6_odds_70
    · skip
      have p_10 : 1 ≤ v1 ∧ v1 ≤ 40 := of_decide_eq_true (bz_ne w_8 c_9)
      refine lv_aload_n hx hb dX6_odds_20 rfl (lv_at hl 0 rfl) ?_
      refine lv_iload_n hx hb dX6_odds_21 rfl (lv_at hl 3 rfl) ?_
      have hPc : va_P G.1 vwCl [(h0, .inr (6, [.int 0, .ref kd, .ref mo, .ref st, .int 0, .ref ro, .ref tp, .int 0, .ref cd, .ref sr, .int 1, .int 0, .int 0, .ref ir, .ref ih, .ref ss, .ref sq, .ref ce, .ref lw, .int 40, .int 40, .int 0, .int 0, .ref wo, .ref he, .int 0, .int 0, .int 5, .ref sk, .ref na, .ref kp, .int 0, .int 0, .int 0, .int 0, .ref gb, .ref go, .ref fa, .ref ga, .int 0, .int 0, .ref vo]))] H := hP.sub [0] rfl
      have hDc : va_D A [(h0, .inr (6, [.int 0, .ref kd, .ref mo, .ref st, .int 0, .ref ro, .ref tp, .int 0, .ref cd, .ref sr, .int 1, .int 0, .int 0, .ref ir, .ref ih, .ref ss, .ref sq, .ref ce, .ref lw, .int 40, .int 40, .int 0, .int 0, .ref wo, .ref he, .int 0, .int 0, .int 5, .ref sk, .ref na, .ref kp, .int 0, .int 0, .int 0, .int 0, .ref gb, .ref go, .ref fa, .ref ga, .int 0, .int 0, .ref vo]))] := hD.sub [0] (by decide) rfl
      have hFc := va_free (wc := [(h0, .inr (6, [.int 0, .ref kd, .ref mo, .ref st, .int 0, .ref ro, .ref tp, .int 0, .ref cd, .ref sr, .int 1, .int 0, .int 0, .ref ir, .ref ih, .ref ss, .ref sq, .ref ce, .ref lw, .int 40, .int 40, .int 0, .int 0, .ref wo, .ref he, .int 0, .int 0, .int 5, .ref sk, .ref na, .ref kp, .int 0, .int 0, .int 0, .int 0, .ref gb, .ref go, .ref fa, .ref ga, .int 0, .int 0, .ref vo]))]) hD hS hA [0] rfl
      refine va_calli (va_runV (As := [.int v2]) (rest := []) ⟨hx, hb, hml, hown, hts⟩ (c_X6_isJudge_0 l G h0 kd mo st ro tp cd sr ir ih ss sq ce lw wo he sk na kp gb go fa ga vo v2 H.size) (cwV 1 hts gX6_odds_X6_isJudge rfl rfl rfl (by decide +kernel) ⟨Nat.le_of_ble_eq_true rfl, Nat.le_of_ble_eq_true rfl⟩) ⟨gPre_blind, va_recv hK hPc (ci := 6) (q0 := 0) rfl rfl, fun U hU hW => gPre_of hU hW hK hPc hDc⟩ rfl rfl hl.1 rfl (lv_room (Nat.le_of_ble_eq_true rfl)) dX6_odds_22 ⟨Nat.le_of_ble_eq_true rfl, Nat.le_of_ble_eq_true rfl⟩) hS (fun q _ h => hFc q h) hFc (fun r_13 u t H locs ht hvm w_14 hB hz1 hk1 hS => ?_)
      obtain ⟨hP1, hK1, hD1⟩ := hB
      rw [ht] at hP1
      have hP1 : va_P G.1 vwCl [(h0, .inr (6, [.int 0, .ref kd, .ref mo, .ref st, .int 0, .ref ro, .ref tp, .int 0, .ref cd, .ref sr, .int 1, .int 0, .int 0, .ref ir, .ref ih, .ref ss, .ref sq, .ref ce, .ref lw, .int 40, .int 40, .int 0, .int 0, .ref wo, .ref he, .int 0, .int 0, .int 5, .ref sk, .ref na, .ref kp, .int 0, .int 0, .int 0, .int 0, .ref gb, .ref go, .ref fa, .ref ga, .int 0, .int 0, .ref vo]))] H := hP1
      have hD1 : va_D (va_A [(h0, .inr (6, [.int 0, .ref kd, .ref mo, .ref st, .int 0, .ref ro, .ref tp, .int 0, .ref cd, .ref sr, .int 1, .int 0, .int 0, .ref ir, .ref ih, .ref ss, .ref sq, .ref ce, .ref lw, .int 40, .int 40, .int 0, .int 0, .ref wo, .ref he, .int 0, .int 0, .int 5, .ref sk, .ref na, .ref kp, .int 0, .int 0, .int 0, .int 0, .ref gb, .ref go, .ref fa, .ref ga, .int 0, .int 0, .ref vo]))] _) [(h0, .inr (6, [.int 0, .ref kd, .ref mo, .ref st, .int 0, .ref ro, .ref tp, .int 0, .ref cd, .ref sr, .int 1, .int 0, .int 0, .ref ir, .ref ih, .ref ss, .ref sq, .ref ce, .ref lw, .int 40, .int 40, .int 0, .int 0, .ref wo, .ref he, .int 0, .int 0, .int 5, .ref sk, .ref na, .ref kp, .int 0, .int 0, .int 0, .int 0, .ref gb, .ref go, .ref fa, .ref ga, .int 0, .int 0, .ref vo]))] := hD1
      have w_14 : r_13 = 0 := w_14
      obtain ⟨hP, hD⟩ := va_join (wr := []) (w1 := [(h0, .inr (6, [.int 0, .ref kd, .ref mo, .ref st, .int 0, .ref ro, .ref tp, .int 0, .ref cd, .ref sr, .int 1, .int 0, .int 0, .ref ir, .ref ih, .ref ss, .ref sq, .ref ce, .ref lw, .int 40, .int 40, .int 0, .int 0, .ref wo, .ref he, .int 0, .int 0, .int 5, .ref sk, .ref na, .ref kp, .int 0, .int 0, .int 0, .int 0, .ref gb, .ref go, .ref fa, .ref ga, .int 0, .int 0, .ref vo]))]) hP hD [0] [] rfl rfl (by decide) (by decide) hk1 hFc hP1 hD1
      have hP : va_P G.1 vwCl [(h0, .inr (6, [.int 0, .ref kd, .ref mo, .ref st, .int 0, .ref ro, .ref tp, .int 0, .ref cd, .ref sr, .int 1, .int 0, .int 0, .ref ir, .ref ih, .ref ss, .ref sq, .ref ce, .ref lw, .int 40, .int 40, .int 0, .int 0, .ref wo, .ref he, .int 0, .int 0, .int 5, .ref sk, .ref na, .ref kp, .int 0, .int 0, .int 0, .int 0, .ref gb, .ref go, .ref fa, .ref ga, .int 0, .int 0, .ref vo]))] H := hP
      have hD : va_D A [(h0, .inr (6, [.int 0, .ref kd, .ref mo, .ref st, .int 0, .ref ro, .ref tp, .int 0, .ref cd, .ref sr, .int 1, .int 0, .int 0, .ref ir, .ref ih, .ref ss, .ref sq, .ref ce, .ref lw, .int 40, .int 40, .int 0, .int 0, .ref wo, .ref he, .int 0, .int 0, .int 5, .ref sk, .ref na, .ref kp, .int 0, .int 0, .int 0, .int 0, .ref gb, .ref go, .ref fa, .ref ga, .int 0, .int 0, .ref vo]))] := hD
      have w_14 : r_13 = 0 := w_14
      subst w_14
      refine lv_if_eq (tgt := 59) hx hb dX6_odds_25 (by decide) (fun c_15 => ?_) (fun c_15 => ?_)
      rotate_left
      · exact absurd (by decide) c_15
      refine lv_iconst (v := 0) hx hb dX6_odds_59 (by decide) ?_
      refine lv_istore (lv' := [(7, .int 0), (0, .ref h0), (1, .int v0), (2, .int v1), (3, .int v2), (4, .int v3), (5, .int v4), (6, .int v5)]) hx hb dX6_odds_60 hl (by decide) rfl (fun ls hl => ?_)
      refine lv_iload hx hb dX6_odds_62 (lv_at hl 0 rfl) ?_
      refine lv_if_ne (tgt := 71) hx hb dX6_odds_64 (by decide) (fun c_16 => ?_) (fun c_16 => ?_)
      · exact absurd (by decide) c_16
      refine lv_ldc2 hx hb hown (hts (.constantLong RX6 268 (-4611686018427387904)) (by decide +kernel)) dX6_odds_67 ?_
      have hpost : (fun (r : Int64) (u : Unit) => match u with | _ => r = -4611686018427387904) (-4611686018427387904) () := pp_X6_odds_0_3 v0 v1 v2 v3 v4 v5 p_4 p_10
      exact W.lret (v := (-4611686018427387904)) hx hb hr (fun t ht hW => ⟨⟨(-4611686018427387904), (), rfl, hpost, trivial⟩, hS.F ht⟩) hS.2.2 dX6_odds_70
theorem pp_X6_back_0_1 : ((-3) : Int32) = -3 := by
  first
    | rfl
    | exact bz_pos (by (first | omega | (simp only [Int32.lt_iff_toInt_lt, Int32.le_iff_toInt_le, ← Int32.toInt_inj, Int32.reduceToInt] at * <;> omega)))
    | exact bz_neg (by (first | omega | (simp only [Int32.lt_iff_toInt_lt, Int32.le_iff_toInt_le, ← Int32.toInt_inj, Int32.reduceToInt] at * <;> omega)))
    | ((repeat' split) <;> first | rfl | assumption | (symm; assumption) | (exfalso; (first | omega | (simp only [Int32.lt_iff_toInt_lt, Int32.le_iff_toInt_le, ← Int32.toInt_inj, Int32.reduceToInt] at * <;> omega))))
abbrev q_X6_back_0 (G : gG) (h0 kd mo st ro tp cd sr ir ih ss sq ce lw wo he sk na kp gb go fa ga vo : Nat) (A : Nat → Prop) : Array Value → State → Outcome → State → Prop := va_Qi (fun (r : Int32) (u : Unit) => match u with | _ => r = -3) (fun (u : Unit) t => match u with | _ => True) A
set_option maxHeartbeats 4000000 in
set_option maxRecDepth 100000 in
theorem c_X6_back_0 (l : Launch) (G : gG) (h0 kd mo st ro tp cd sr ir ih ss sq ce lw wo he sk na kp gb go fa ga vo : Nat) (sz : Nat) : Met l yX6_back wsX6_back ({ frames := 0, cells := 0, slots := 0, locals := 0 }) (gPre G [.ref h0] [(h0, .inr (6, [.int 0, .ref kd, .ref mo, .ref st, .int 0, .ref ro, .ref tp, .int 0, .ref cd, .ref sr, .int 1, .int 0, .int 0, .ref ir, .ref ih, .ref ss, .ref sq, .ref ce, .ref lw, .int 40, .int 40, .int 0, .int 0, .ref wo, .ref he, .int 0, .int 0, .int 5, .ref sk, .ref na, .ref kp, .int 0, .int 0, .int 0, .int 0, .ref gb, .ref go, .ref fa, .ref ga, .int 0, .int 0, .ref vo]))] sz) (q_X6_back_0 G h0 kd mo st ro tp cd sr ir ih ss sq ce lw wo he sk na kp gb go fa ga vo (va_A [(h0, .inr (6, [.int 0, .ref kd, .ref mo, .ref st, .int 0, .ref ro, .ref tp, .int 0, .ref cd, .ref sr, .int 1, .int 0, .int 0, .ref ir, .ref ih, .ref ss, .ref sq, .ref ce, .ref lw, .int 40, .int 40, .int 0, .int 0, .ref wo, .ref he, .int 0, .int 0, .int 5, .ref sk, .ref na, .ref kp, .int 0, .int 0, .int 0, .int 0, .ref gb, .ref go, .ref fa, .ref ga, .int 0, .int 0, .ref vo]))] sz)) 0 0 (va_A [(h0, .inr (6, [.int 0, .ref kd, .ref mo, .ref st, .int 0, .ref ro, .ref tp, .int 0, .ref cd, .ref sr, .int 1, .int 0, .int 0, .ref ir, .ref ih, .ref ss, .ref sq, .ref ce, .ref lw, .int 40, .int 40, .int 0, .int 0, .ref wo, .ref he, .int 0, .int 0, .int 5, .ref sk, .ref na, .ref kp, .int 0, .int 0, .int 0, .int 0, .ref gb, .ref go, .ref fa, .ref ga, .int 0, .int 0, .ref vo]))] sz) := by
  refine Met.ofW (cc := cX6_back) (maxL := 2) (ret := (some .int)) (by decide) rfl ?_
  intro p e s m args below meth c s₁ B hml hv
  obtain ⟨rfl, hsz, hP, hK, hD0⟩ := hv
  have hx := B.exec
  have hb := B.bytes
  have hr := B.returns
  have hts := atoms_spec (ws := wsX6_back) B.pre
  have hown : s.vm.findClass RX6 = some m.cls := findClass_of_methodNamed B.named
  have hlocks := B.notSynchronized
  subst hsz
  have hD := hD0.self (sz := s.heap.size)
  generalize hAe : va_A [(h0, .inr (6, [.int 0, .ref kd, .ref mo, .ref st, .int 0, .ref ro, .ref tp, .int 0, .ref cd, .ref sr, .int 1, .int 0, .int 0, .ref ir, .ref ih, .ref ss, .ref sq, .ref ce, .ref lw, .int 40, .int 40, .int 0, .int 0, .ref wo, .ref he, .int 0, .int 0, .int 5, .ref sk, .ref na, .ref kp, .int 0, .int 0, .int 0, .int 0, .ref gb, .ref go, .ref fa, .ref ga, .int 0, .int 0, .ref vo]))] s.heap.size = A at hD ⊢
  have hA : ∀ q : Nat, s.heap.size ≤ q → A q := fun q h => by rw [← hAe]; exact Or.inr h
  have hS : va_S A s.heap s.heap [] := va_S.rf
  have hP : va_P G.1 vwCl [(h0, .inr (6, [.int 0, .ref kd, .ref mo, .ref st, .int 0, .ref ro, .ref tp, .int 0, .ref cd, .ref sr, .int 1, .int 0, .int 0, .ref ir, .ref ih, .ref ss, .ref sq, .ref ce, .ref lw, .int 40, .int 40, .int 0, .int 0, .ref wo, .ref he, .int 0, .int 0, .int 5, .ref sk, .ref na, .ref kp, .int 0, .int 0, .int 0, .int 0, .ref gb, .ref go, .ref fa, .ref ga, .int 0, .int 0, .ref vo]))] s.heap := hP
  have hD : va_D A [(h0, .inr (6, [.int 0, .ref kd, .ref mo, .ref st, .int 0, .ref ro, .ref tp, .int 0, .ref cd, .ref sr, .int 1, .int 0, .int 0, .ref ir, .ref ih, .ref ss, .ref sq, .ref ce, .ref lw, .int 40, .int 40, .int 0, .int 0, .ref wo, .ref he, .int 0, .int 0, .int 5, .ref sk, .ref na, .ref kp, .int 0, .int 0, .int 0, .int 0, .ref gb, .ref go, .ref fa, .ref ga, .int 0, .int 0, .ref vo]))] := hD
  have hl := lv_entry ([.ref h0]) (n := 2) (Nat.le_of_ble_eq_true rfl)
  rw [lg_entry_eq]
  generalize (lg_sl ([.ref h0]) ++ List.replicate (2 - (lg_sl ([.ref h0])).length) Slot.unset).toArray = ls at hl ⊢
  have hl : lv_has ls 2 [(0, .ref h0)] := hl
  have kf274 := hts (.fieldLink RX6 274 "PebbleInShoeModel" "hasImage" "Z") (by decide +kernel)
  have hiX6 := (by decide +kernel : ∀ w ∈ wsX60, w ∈ wsX6_back)
  refine lv_aload_n hx hb dX6_back_0 rfl (lv_at hl 0 rfl) ?_
  refine va_get (D := G.1) (ci := 6) (v := .int 0) (C := RX6) (T := TX6) (N := 42) hx hb hts hiX6 hown hK hP 0 rfl rfl 12 (by decide) kf274 (fun _ h9 => h9) rfl dX6_back_1 ?_
  refine lv_if_ne (tgt := 10) hx hb dX6_back_4 (by decide) (fun c_1 => ?_) (fun c_1 => ?_)
  · exact absurd (by decide) c_1
  refine lv_bipush (v := -3) hx hb dX6_back_7 (by decide) ?_
  have hpost : (fun (r : Int32) (u : Unit) => match u with | _ => r = -3) (-3) () := pp_X6_back_0_1  
  exact W.iret (v := (-3)) hx hb hr (fun t ht hW => ⟨⟨(-3), (), rfl, hpost, trivial⟩, hS.F ht⟩) hS.2.2 dX6_back_9
theorem pp_X6_force_0_1 (v0 : Int32) (p_5 : 0 ≤ v0 ∧ v0 ≤ 0) : (0 : Int32) = (if 0 ≤ v0 ∧ v0 ≤ 0 then 0 else -2) := by
  first
    | rfl
    | exact bz_pos (by (first | omega | (simp only [Int32.lt_iff_toInt_lt, Int32.le_iff_toInt_le, ← Int32.toInt_inj, Int32.reduceToInt] at * <;> omega)))
    | exact bz_neg (by (first | omega | (simp only [Int32.lt_iff_toInt_lt, Int32.le_iff_toInt_le, ← Int32.toInt_inj, Int32.reduceToInt] at * <;> omega)))
    | ((repeat' split) <;> first | rfl | assumption | (symm; assumption) | (exfalso; (first | omega | (simp only [Int32.lt_iff_toInt_lt, Int32.le_iff_toInt_le, ← Int32.toInt_inj, Int32.reduceToInt] at * <;> omega))))
theorem pp_X6_force_0_2 (v0 : Int32) (n_6 : ¬ (0 ≤ v0 ∧ v0 ≤ 0)) : ((-2) : Int32) = (if 0 ≤ v0 ∧ v0 ≤ 0 then 0 else -2) := by
  first
    | rfl
    | exact bz_pos (by (first | omega | (simp only [Int32.lt_iff_toInt_lt, Int32.le_iff_toInt_le, ← Int32.toInt_inj, Int32.reduceToInt] at * <;> omega)))
    | exact bz_neg (by (first | omega | (simp only [Int32.lt_iff_toInt_lt, Int32.le_iff_toInt_le, ← Int32.toInt_inj, Int32.reduceToInt] at * <;> omega)))
    | ((repeat' split) <;> first | rfl | assumption | (symm; assumption) | (exfalso; (first | omega | (simp only [Int32.lt_iff_toInt_lt, Int32.le_iff_toInt_le, ← Int32.toInt_inj, Int32.reduceToInt] at * <;> omega))))
abbrev q_X6_force_0 (G : gG) (h0 kd mo st ro tp cd sr ir ih ss sq ce lw wo he sk na kp gb go fa ga vo : Nat) (v0 : Int32) (A : Nat → Prop) : Array Value → State → Outcome → State → Prop := va_Qi (fun (r : Int32) (u : Unit) => match u with | _ => r = (if 0 ≤ v0 ∧ v0 ≤ 0 then 0 else -2)) (fun (u : Unit) t => match u with | _ => True) A
set_option maxHeartbeats 4000000 in
set_option maxRecDepth 100000 in
theorem c_X6_force_0 (l : Launch) (G : gG) (h0 kd mo st ro tp cd sr ir ih ss sq ce lw wo he sk na kp gb go fa ga vo : Nat) (v0 : Int32) (sz : Nat) : Met l yX6_force wsX6_force ({ frames := 1, cells := 0, slots := 0, locals := 22 }) (gPre G [.ref h0, .int v0] [(h0, .inr (6, [.int 0, .ref kd, .ref mo, .ref st, .int 0, .ref ro, .ref tp, .int 0, .ref cd, .ref sr, .int 1, .int 0, .int 0, .ref ir, .ref ih, .ref ss, .ref sq, .ref ce, .ref lw, .int 40, .int 40, .int 0, .int 0, .ref wo, .ref he, .int 0, .int 0, .int 5, .ref sk, .ref na, .ref kp, .int 0, .int 0, .int 0, .int 0, .ref gb, .ref go, .ref fa, .ref ga, .int 0, .int 0, .ref vo]))] sz) (q_X6_force_0 G h0 kd mo st ro tp cd sr ir ih ss sq ce lw wo he sk na kp gb go fa ga vo v0 (va_A [(h0, .inr (6, [.int 0, .ref kd, .ref mo, .ref st, .int 0, .ref ro, .ref tp, .int 0, .ref cd, .ref sr, .int 1, .int 0, .int 0, .ref ir, .ref ih, .ref ss, .ref sq, .ref ce, .ref lw, .int 40, .int 40, .int 0, .int 0, .ref wo, .ref he, .int 0, .int 0, .int 5, .ref sk, .ref na, .ref kp, .int 0, .int 0, .int 0, .int 0, .ref gb, .ref go, .ref fa, .ref ga, .int 0, .int 0, .ref vo]))] sz)) 0 0 (va_A [(h0, .inr (6, [.int 0, .ref kd, .ref mo, .ref st, .int 0, .ref ro, .ref tp, .int 0, .ref cd, .ref sr, .int 1, .int 0, .int 0, .ref ir, .ref ih, .ref ss, .ref sq, .ref ce, .ref lw, .int 40, .int 40, .int 0, .int 0, .ref wo, .ref he, .int 0, .int 0, .int 5, .ref sk, .ref na, .ref kp, .int 0, .int 0, .int 0, .int 0, .ref gb, .ref go, .ref fa, .ref ga, .int 0, .int 0, .ref vo]))] sz) := by
  refine Met.ofW (cc := cX6_force) (maxL := 3) (ret := (some .int)) (by decide) rfl ?_
  intro p e s m args below meth c s₁ B hml hv
  obtain ⟨rfl, hsz, hP, hK, hD0⟩ := hv
  have hx := B.exec
  have hb := B.bytes
  have hr := B.returns
  have hts := atoms_spec (ws := wsX6_force) B.pre
  have hown : s.vm.findClass RX6 = some m.cls := findClass_of_methodNamed B.named
  have hlocks := B.notSynchronized
  subst hsz
  have hD := hD0.self (sz := s.heap.size)
  generalize hAe : va_A [(h0, .inr (6, [.int 0, .ref kd, .ref mo, .ref st, .int 0, .ref ro, .ref tp, .int 0, .ref cd, .ref sr, .int 1, .int 0, .int 0, .ref ir, .ref ih, .ref ss, .ref sq, .ref ce, .ref lw, .int 40, .int 40, .int 0, .int 0, .ref wo, .ref he, .int 0, .int 0, .int 5, .ref sk, .ref na, .ref kp, .int 0, .int 0, .int 0, .int 0, .ref gb, .ref go, .ref fa, .ref ga, .int 0, .int 0, .ref vo]))] s.heap.size = A at hD ⊢
  have hA : ∀ q : Nat, s.heap.size ≤ q → A q := fun q h => by rw [← hAe]; exact Or.inr h
  have hS : va_S A s.heap s.heap [] := va_S.rf
  have hP : va_P G.1 vwCl [(h0, .inr (6, [.int 0, .ref kd, .ref mo, .ref st, .int 0, .ref ro, .ref tp, .int 0, .ref cd, .ref sr, .int 1, .int 0, .int 0, .ref ir, .ref ih, .ref ss, .ref sq, .ref ce, .ref lw, .int 40, .int 40, .int 0, .int 0, .ref wo, .ref he, .int 0, .int 0, .int 5, .ref sk, .ref na, .ref kp, .int 0, .int 0, .int 0, .int 0, .ref gb, .ref go, .ref fa, .ref ga, .int 0, .int 0, .ref vo]))] s.heap := hP
  have hD : va_D A [(h0, .inr (6, [.int 0, .ref kd, .ref mo, .ref st, .int 0, .ref ro, .ref tp, .int 0, .ref cd, .ref sr, .int 1, .int 0, .int 0, .ref ir, .ref ih, .ref ss, .ref sq, .ref ce, .ref lw, .int 40, .int 40, .int 0, .int 0, .ref wo, .ref he, .int 0, .int 0, .int 5, .ref sk, .ref na, .ref kp, .int 0, .int 0, .int 0, .int 0, .ref gb, .ref go, .ref fa, .ref ga, .int 0, .int 0, .ref vo]))] := hD
  have hl := lv_entry ([.ref h0, .int v0]) (n := 3) (Nat.le_of_ble_eq_true rfl)
  rw [lg_entry_eq]
  generalize (lg_sl ([.ref h0, .int v0]) ++ List.replicate (3 - (lg_sl ([.ref h0, .int v0])).length) Slot.unset).toArray = ls at hl ⊢
  have hl : lv_has ls 3 [(0, .ref h0), (1, .int v0)] := hl
  have kf98 := hts (.fieldLink RX6 98 "PebbleInShoeModel" "texts" "I") (by decide +kernel)
  have hiX6 := (by decide +kernel : ∀ w ∈ wsX60, w ∈ wsX6_force)
  have kf101 := hts (.fieldLink RX6 101 "PebbleInShoeModel" "rule" "I") (by decide +kernel)
  refine lv_iload_n hx hb dX6_force_0 rfl (lv_at hl 1 rfl) ?_
  refine lv_iconst (v := 0) hx hb dX6_force_1 (by decide) ?_
  refine lv_aload_n hx hb dX6_force_2 rfl (lv_at hl 0 rfl) ?_
  refine va_get (D := G.1) (ci := 6) (v := .int 1) (C := RX6) (T := TX6) (N := 42) hx hb hts hiX6 hown hK hP 0 rfl rfl 10 (by decide) kf98 (fun _ h9 => h9) rfl dX6_force_3 ?_
  refine lv_iconst (v := 1) hx hb dX6_force_6 (by decide) ?_
  refine lv_isub hx hb dX6_force_7 ?_
  refine lv_topi (fun v_1 ev_1 => ?_)
  have ev_1 : v_1 = 0 := ev_1.trans (by decide)
  subst ev_1
  have hPc : va_P G.1 vwCl [] s.heap := hP.sub [] rfl
  have hDc : va_D A [] := hD.sub [] (by decide) rfl
  have hFc := va_free (wc := []) hD hS hA [] rfl
  refine va_calli (va_runS (As := [.int v0, .int 0, .int 0]) (rest := []) ⟨hx, hb, hml, hown, hts⟩ (c_X6_in l G v0 0 0 s.heap.size) (va_cwS 3 hts gX6_force_X6_in rfl rfl rfl (by decide +kernel) ⟨Nat.le_of_ble_eq_true rfl, Nat.le_of_ble_eq_true rfl⟩) ⟨gPre_blind, fun U hU hW => gPre_of hU hW hK hPc hDc⟩ rfl rfl hl.1 rfl (lv_room (Nat.le_of_ble_eq_true rfl)) dX6_force_8 ⟨Nat.le_of_ble_eq_true rfl, Nat.le_of_ble_eq_true rfl⟩) hS (fun q _ h => hFc q h) hFc (fun r_2 u t H locs ht hvm w_3 hB hz1 hk1 hS => ?_)
  obtain ⟨hP1, hK1, hD1⟩ := hB
  rw [ht] at hP1
  have hP1 : va_P G.1 vwCl [] H := hP1
  have hD1 : va_D (va_A [] s.heap.size) [] := hD1
  have w_3 : r_2 = bz (decide (0 ≤ v0 ∧ v0 ≤ 0)) := w_3
  obtain ⟨hP, hD⟩ := va_join (wr := [(h0, .inr (6, [.int 0, .ref kd, .ref mo, .ref st, .int 0, .ref ro, .ref tp, .int 0, .ref cd, .ref sr, .int 1, .int 0, .int 0, .ref ir, .ref ih, .ref ss, .ref sq, .ref ce, .ref lw, .int 40, .int 40, .int 0, .int 0, .ref wo, .ref he, .int 0, .int 0, .int 5, .ref sk, .ref na, .ref kp, .int 0, .int 0, .int 0, .int 0, .ref gb, .ref go, .ref fa, .ref ga, .int 0, .int 0, .ref vo]))]) (w1 := []) hP hD [] [0] rfl rfl (by decide) (by decide) hk1 hFc hP1 hD1
  have hP : va_P G.1 vwCl [(h0, .inr (6, [.int 0, .ref kd, .ref mo, .ref st, .int 0, .ref ro, .ref tp, .int 0, .ref cd, .ref sr, .int 1, .int 0, .int 0, .ref ir, .ref ih, .ref ss, .ref sq, .ref ce, .ref lw, .int 40, .int 40, .int 0, .int 0, .ref wo, .ref he, .int 0, .int 0, .int 5, .ref sk, .ref na, .ref kp, .int 0, .int 0, .int 0, .int 0, .ref gb, .ref go, .ref fa, .ref ga, .int 0, .int 0, .ref vo]))] H := hP
  have hD : va_D A [(h0, .inr (6, [.int 0, .ref kd, .ref mo, .ref st, .int 0, .ref ro, .ref tp, .int 0, .ref cd, .ref sr, .int 1, .int 0, .int 0, .ref ir, .ref ih, .ref ss, .ref sq, .ref ce, .ref lw, .int 40, .int 40, .int 0, .int 0, .ref wo, .ref he, .int 0, .int 0, .int 5, .ref sk, .ref na, .ref kp, .int 0, .int 0, .int 0, .int 0, .ref gb, .ref go, .ref fa, .ref ga, .int 0, .int 0, .ref vo]))] := hD
  refine lv_if_ne (tgt := 17) hx hb dX6_force_11 (by decide) (fun c_4 => ?_) (fun c_4 => ?_)
  · skip
    have p_5 : 0 ≤ v0 ∧ v0 ≤ 0 := of_decide_eq_true (bz_ne w_3 c_4)
    refine lv_aload_n hx hb dX6_force_17 rfl (lv_at hl 0 rfl) ?_
    refine va_get (D := G.1) (ci := 6) (v := .int 0) (C := RX6) (T := TX6) (N := 42) hx hb hts hiX6 hown hK hP 0 rfl rfl 11 (by decide) kf101 (fun _ h9 => h9) rfl dX6_force_18 ?_
    refine lv_istore_n (lv' := [(2, .int 0), (0, .ref h0), (1, .int v0)]) hx hb dX6_force_21 rfl hl (by decide) rfl (fun ls hl => ?_)
    refine lv_aload_n hx hb dX6_force_22 rfl (lv_at hl 1 rfl) ?_
    refine lv_iload_n hx hb dX6_force_23 rfl (lv_at hl 2 rfl) ?_
    refine va_put (D := G.1) (ci := 6) (v := .int v0) (ty := .int) (C := RX6) (T := TX6) (N := 42) hx hb hts hiX6 tyX6 tyX6_ok nmX6 hown hK hP hD hS 0 rfl rfl 11 (by decide) kf101 (fun _ h9 => h9) rfl (by decide +kernel) rfl rfl (Nat.le_of_ble_eq_true rfl) dX6_force_24 (fun H locs hP hD hS => ?_)
    have hP : va_P G.1 vwCl [(h0, .inr (6, [.int 0, .ref kd, .ref mo, .ref st, .int 0, .ref ro, .ref tp, .int 0, .ref cd, .ref sr, .int 1, .int v0, .int 0, .ref ir, .ref ih, .ref ss, .ref sq, .ref ce, .ref lw, .int 40, .int 40, .int 0, .int 0, .ref wo, .ref he, .int 0, .int 0, .int 5, .ref sk, .ref na, .ref kp, .int 0, .int 0, .int 0, .int 0, .ref gb, .ref go, .ref fa, .ref ga, .int 0, .int 0, .ref vo]))] H := hP
    have hD : va_D A [(h0, .inr (6, [.int 0, .ref kd, .ref mo, .ref st, .int 0, .ref ro, .ref tp, .int 0, .ref cd, .ref sr, .int 1, .int v0, .int 0, .ref ir, .ref ih, .ref ss, .ref sq, .ref ce, .ref lw, .int 40, .int 40, .int 0, .int 0, .ref wo, .ref he, .int 0, .int 0, .int 5, .ref sk, .ref na, .ref kp, .int 0, .int 0, .int 0, .int 0, .ref gb, .ref go, .ref fa, .ref ga, .int 0, .int 0, .ref vo]))] := hD
    refine lv_iload_n hx hb dX6_force_27 rfl (lv_at hl 0 rfl) ?_
    have hpost : (fun (r : Int32) (u : Unit) => match u with | _ => r = (if 0 ≤ v0 ∧ v0 ≤ 0 then 0 else -2)) 0 () := pp_X6_force_0_1 v0 p_5
    exact W.iret (v := 0) hx hb hr (fun t ht hW => ⟨⟨0, (), rfl, hpost, trivial⟩, hS.F ht⟩) hS.2.2 dX6_force_28
  · skip
    have n_6 : ¬ (0 ≤ v0 ∧ v0 ≤ 0) := of_decide_eq_false (bz_eq w_3 c_4)
    refine lv_bipush (v := -2) hx hb dX6_force_14 (by decide) ?_
    have hpost : (fun (r : Int32) (u : Unit) => match u with | _ => r = (if 0 ≤ v0 ∧ v0 ≤ 0 then 0 else -2)) (-2) () := pp_X6_force_0_2 v0 n_6
    exact W.iret (v := (-2)) hx hb hr (fun t ht hW => ⟨⟨(-2), (), rfl, hpost, trivial⟩, hS.F ht⟩) hS.2.2 dX6_force_16
theorem pp_X6_pebble_0_1 (v0 : Int32) (v1 : Int32) (n_5 : ¬ (0 ≤ v0 ∧ v0 ≤ 59)) : ((-2) : Int32) = (if (0 ≤ v0 ∧ v0 ≤ 59) ∧ (0 ≤ v1 ∧ v1 ≤ 9999) then 0 else -2) := by
  first
    | rfl
    | exact bz_pos (by (first | omega | (simp only [Int32.lt_iff_toInt_lt, Int32.le_iff_toInt_le, ← Int32.toInt_inj, Int32.reduceToInt] at * <;> omega)))
    | exact bz_neg (by (first | omega | (simp only [Int32.lt_iff_toInt_lt, Int32.le_iff_toInt_le, ← Int32.toInt_inj, Int32.reduceToInt] at * <;> omega)))
    | ((repeat' split) <;> first | rfl | assumption | (symm; assumption) | (exfalso; (first | omega | (simp only [Int32.lt_iff_toInt_lt, Int32.le_iff_toInt_le, ← Int32.toInt_inj, Int32.reduceToInt] at * <;> omega))))
theorem pp_X6_pebble_0_2 (v0 : Int32) (v1 : Int32) (p_4 : 0 ≤ v0 ∧ v0 ≤ 59) (p_9 : 0 ≤ v1 ∧ v1 ≤ 9999) : (0 : Int32) = (if (0 ≤ v0 ∧ v0 ≤ 59) ∧ (0 ≤ v1 ∧ v1 ≤ 9999) then 0 else -2) := by
  first
    | rfl
    | exact bz_pos (by (first | omega | (simp only [Int32.lt_iff_toInt_lt, Int32.le_iff_toInt_le, ← Int32.toInt_inj, Int32.reduceToInt] at * <;> omega)))
    | exact bz_neg (by (first | omega | (simp only [Int32.lt_iff_toInt_lt, Int32.le_iff_toInt_le, ← Int32.toInt_inj, Int32.reduceToInt] at * <;> omega)))
    | ((repeat' split) <;> first | rfl | assumption | (symm; assumption) | (exfalso; (first | omega | (simp only [Int32.lt_iff_toInt_lt, Int32.le_iff_toInt_le, ← Int32.toInt_inj, Int32.reduceToInt] at * <;> omega))))
theorem pp_X6_pebble_0_3 (v0 : Int32) (v1 : Int32) (p_4 : 0 ≤ v0 ∧ v0 ≤ 59) (n_10 : ¬ (0 ≤ v1 ∧ v1 ≤ 9999)) : ((-2) : Int32) = (if (0 ≤ v0 ∧ v0 ≤ 59) ∧ (0 ≤ v1 ∧ v1 ≤ 9999) then 0 else -2) := by
  first
    | rfl
    | exact bz_pos (by (first | omega | (simp only [Int32.lt_iff_toInt_lt, Int32.le_iff_toInt_le, ← Int32.toInt_inj, Int32.reduceToInt] at * <;> omega)))
    | exact bz_neg (by (first | omega | (simp only [Int32.lt_iff_toInt_lt, Int32.le_iff_toInt_le, ← Int32.toInt_inj, Int32.reduceToInt] at * <;> omega)))
    | ((repeat' split) <;> first | rfl | assumption | (symm; assumption) | (exfalso; (first | omega | (simp only [Int32.lt_iff_toInt_lt, Int32.le_iff_toInt_le, ← Int32.toInt_inj, Int32.reduceToInt] at * <;> omega))))
abbrev q_X6_pebble_0 (G : gG) (h0 kd mo st ro tp cd sr ir ih ss sq ce lw wo he sk na kp gb go fa ga vo : Nat) (v0 : Int32) (v1 : Int32) (A : Nat → Prop) : Array Value → State → Outcome → State → Prop := va_Qi (fun (r : Int32) (u : Unit) => match u with | _ => r = (if (0 ≤ v0 ∧ v0 ≤ 59) ∧ (0 ≤ v1 ∧ v1 ≤ 9999) then 0 else -2)) (fun (u : Unit) t => match u with | _ => True) A
set_option maxHeartbeats 4000000 in
set_option maxRecDepth 100000 in
theorem c_X6_pebble_0 (l : Launch) (G : gG) (h0 kd mo st ro tp cd sr ir ih ss sq ce lw wo he sk na kp gb go fa ga vo : Nat) (v0 : Int32) (v1 : Int32) (sz : Nat) : Met l yX6_pebble wsX6_pebble ({ frames := 1, cells := 0, slots := 0, locals := 22 }) (gPre G [.ref h0, .int v0, .int v1] [(h0, .inr (6, [.int 0, .ref kd, .ref mo, .ref st, .int 0, .ref ro, .ref tp, .int 0, .ref cd, .ref sr, .int 1, .int 0, .int 0, .ref ir, .ref ih, .ref ss, .ref sq, .ref ce, .ref lw, .int 40, .int 40, .int 0, .int 0, .ref wo, .ref he, .int 0, .int 0, .int 5, .ref sk, .ref na, .ref kp, .int 0, .int 0, .int 0, .int 0, .ref gb, .ref go, .ref fa, .ref ga, .int 0, .int 0, .ref vo])), (kd, .inl (G.2.1, 6, .inl (fun _ => 0))), (mo, .inl (G.2.1, 6, .inl (fun _ => 0))), (st, .inl (G.2.1, 12, .inl (fun _ => 0)))] sz) (q_X6_pebble_0 G h0 kd mo st ro tp cd sr ir ih ss sq ce lw wo he sk na kp gb go fa ga vo v0 v1 (va_A [(h0, .inr (6, [.int 0, .ref kd, .ref mo, .ref st, .int 0, .ref ro, .ref tp, .int 0, .ref cd, .ref sr, .int 1, .int 0, .int 0, .ref ir, .ref ih, .ref ss, .ref sq, .ref ce, .ref lw, .int 40, .int 40, .int 0, .int 0, .ref wo, .ref he, .int 0, .int 0, .int 5, .ref sk, .ref na, .ref kp, .int 0, .int 0, .int 0, .int 0, .ref gb, .ref go, .ref fa, .ref ga, .int 0, .int 0, .ref vo])), (kd, .inl (G.2.1, 6, .inl (fun _ => 0))), (mo, .inl (G.2.1, 6, .inl (fun _ => 0))), (st, .inl (G.2.1, 12, .inl (fun _ => 0)))] sz)) 0 0 (va_A [(h0, .inr (6, [.int 0, .ref kd, .ref mo, .ref st, .int 0, .ref ro, .ref tp, .int 0, .ref cd, .ref sr, .int 1, .int 0, .int 0, .ref ir, .ref ih, .ref ss, .ref sq, .ref ce, .ref lw, .int 40, .int 40, .int 0, .int 0, .ref wo, .ref he, .int 0, .int 0, .int 5, .ref sk, .ref na, .ref kp, .int 0, .int 0, .int 0, .int 0, .ref gb, .ref go, .ref fa, .ref ga, .int 0, .int 0, .ref vo])), (kd, .inl (G.2.1, 6, .inl (fun _ => 0))), (mo, .inl (G.2.1, 6, .inl (fun _ => 0))), (st, .inl (G.2.1, 12, .inl (fun _ => 0)))] sz) := by
  refine Met.ofW (cc := cX6_pebble) (maxL := 3) (ret := (some .int)) (by decide) rfl ?_
  intro p e s m args below meth c s₁ B hml hv
  obtain ⟨rfl, hsz, hP, hK, hD0⟩ := hv
  have hx := B.exec
  have hb := B.bytes
  have hr := B.returns
  have hts := atoms_spec (ws := wsX6_pebble) B.pre
  have hown : s.vm.findClass RX6 = some m.cls := findClass_of_methodNamed B.named
  have hlocks := B.notSynchronized
  subst hsz
  have hD := hD0.self (sz := s.heap.size)
  generalize hAe : va_A [(h0, .inr (6, [.int 0, .ref kd, .ref mo, .ref st, .int 0, .ref ro, .ref tp, .int 0, .ref cd, .ref sr, .int 1, .int 0, .int 0, .ref ir, .ref ih, .ref ss, .ref sq, .ref ce, .ref lw, .int 40, .int 40, .int 0, .int 0, .ref wo, .ref he, .int 0, .int 0, .int 5, .ref sk, .ref na, .ref kp, .int 0, .int 0, .int 0, .int 0, .ref gb, .ref go, .ref fa, .ref ga, .int 0, .int 0, .ref vo])), (kd, .inl (G.2.1, 6, .inl (fun _ => 0))), (mo, .inl (G.2.1, 6, .inl (fun _ => 0))), (st, .inl (G.2.1, 12, .inl (fun _ => 0)))] s.heap.size = A at hD ⊢
  have hA : ∀ q : Nat, s.heap.size ≤ q → A q := fun q h => by rw [← hAe]; exact Or.inr h
  have hS : va_S A s.heap s.heap [] := va_S.rf
  have hP : va_P G.1 vwCl [(h0, .inr (6, [.int 0, .ref kd, .ref mo, .ref st, .int 0, .ref ro, .ref tp, .int 0, .ref cd, .ref sr, .int 1, .int 0, .int 0, .ref ir, .ref ih, .ref ss, .ref sq, .ref ce, .ref lw, .int 40, .int 40, .int 0, .int 0, .ref wo, .ref he, .int 0, .int 0, .int 5, .ref sk, .ref na, .ref kp, .int 0, .int 0, .int 0, .int 0, .ref gb, .ref go, .ref fa, .ref ga, .int 0, .int 0, .ref vo])), (kd, .inl (G.2.1, 6, .inl (fun _ => 0))), (mo, .inl (G.2.1, 6, .inl (fun _ => 0))), (st, .inl (G.2.1, 12, .inl (fun _ => 0)))] s.heap := hP
  have hD : va_D A [(h0, .inr (6, [.int 0, .ref kd, .ref mo, .ref st, .int 0, .ref ro, .ref tp, .int 0, .ref cd, .ref sr, .int 1, .int 0, .int 0, .ref ir, .ref ih, .ref ss, .ref sq, .ref ce, .ref lw, .int 40, .int 40, .int 0, .int 0, .ref wo, .ref he, .int 0, .int 0, .int 5, .ref sk, .ref na, .ref kp, .int 0, .int 0, .int 0, .int 0, .ref gb, .ref go, .ref fa, .ref ga, .int 0, .int 0, .ref vo])), (kd, .inl (G.2.1, 6, .inl (fun _ => 0))), (mo, .inl (G.2.1, 6, .inl (fun _ => 0))), (st, .inl (G.2.1, 12, .inl (fun _ => 0)))] := hD
  have hl := lv_entry ([.ref h0, .int v0, .int v1]) (n := 3) (Nat.le_of_ble_eq_true rfl)
  rw [lg_entry_eq]
  generalize (lg_sl ([.ref h0, .int v0, .int v1]) ++ List.replicate (3 - (lg_sl ([.ref h0, .int v0, .int v1])).length) Slot.unset).toArray = ls at hl ⊢
  have hl : lv_has ls 3 [(0, .ref h0), (1, .int v0), (2, .int v1)] := hl
  have kf88 := hts (.fieldLink RX6 88 "PebbleInShoeModel" "pebbles" "I") (by decide +kernel)
  have hiX6 := (by decide +kernel : ∀ w ∈ wsX60, w ∈ wsX6_pebble)
  have kf7 := hts (.fieldLink RX6 7 "PebbleInShoeModel" "kind" "[I") (by decide +kernel)
  have kf13 := hts (.fieldLink RX6 13 "PebbleInShoeModel" "moreOf" "[I") (by decide +kernel)
  have kf16 := hts (.fieldLink RX6 16 "PebbleInShoeModel" "stones" "[I") (by decide +kernel)
  refine lv_iload_n hx hb dX6_pebble_0 rfl (lv_at hl 1 rfl) ?_
  refine lv_iconst (v := 0) hx hb dX6_pebble_1 (by decide) ?_
  refine lv_bipush (v := 59) hx hb dX6_pebble_2 (by decide) ?_
  have hPc : va_P G.1 vwCl [] s.heap := hP.sub [] rfl
  have hDc : va_D A [] := hD.sub [] (by decide) rfl
  have hFc := va_free (wc := []) hD hS hA [] rfl
  refine va_calli (va_runS (As := [.int v0, .int 0, .int 59]) (rest := []) ⟨hx, hb, hml, hown, hts⟩ (c_X6_in l G v0 0 59 s.heap.size) (va_cwS 3 hts gX6_pebble_X6_in rfl rfl rfl (by decide +kernel) ⟨Nat.le_of_ble_eq_true rfl, Nat.le_of_ble_eq_true rfl⟩) ⟨gPre_blind, fun U hU hW => gPre_of hU hW hK hPc hDc⟩ rfl rfl hl.1 rfl (lv_room (Nat.le_of_ble_eq_true rfl)) dX6_pebble_4 ⟨Nat.le_of_ble_eq_true rfl, Nat.le_of_ble_eq_true rfl⟩) hS (fun q _ h => hFc q h) hFc (fun r_1 u t H locs ht hvm w_2 hB hz1 hk1 hS => ?_)
  obtain ⟨hP1, hK1, hD1⟩ := hB
  rw [ht] at hP1
  have hP1 : va_P G.1 vwCl [] H := hP1
  have hD1 : va_D (va_A [] s.heap.size) [] := hD1
  have w_2 : r_1 = bz (decide (0 ≤ v0 ∧ v0 ≤ 59)) := w_2
  obtain ⟨hP, hD⟩ := va_join (wr := [(h0, .inr (6, [.int 0, .ref kd, .ref mo, .ref st, .int 0, .ref ro, .ref tp, .int 0, .ref cd, .ref sr, .int 1, .int 0, .int 0, .ref ir, .ref ih, .ref ss, .ref sq, .ref ce, .ref lw, .int 40, .int 40, .int 0, .int 0, .ref wo, .ref he, .int 0, .int 0, .int 5, .ref sk, .ref na, .ref kp, .int 0, .int 0, .int 0, .int 0, .ref gb, .ref go, .ref fa, .ref ga, .int 0, .int 0, .ref vo])), (kd, .inl (G.2.1, 6, .inl (fun _ => 0))), (mo, .inl (G.2.1, 6, .inl (fun _ => 0))), (st, .inl (G.2.1, 12, .inl (fun _ => 0)))]) (w1 := []) hP hD [] [0, 1, 2, 3] rfl rfl (by decide) (by decide) hk1 hFc hP1 hD1
  have hP : va_P G.1 vwCl [(h0, .inr (6, [.int 0, .ref kd, .ref mo, .ref st, .int 0, .ref ro, .ref tp, .int 0, .ref cd, .ref sr, .int 1, .int 0, .int 0, .ref ir, .ref ih, .ref ss, .ref sq, .ref ce, .ref lw, .int 40, .int 40, .int 0, .int 0, .ref wo, .ref he, .int 0, .int 0, .int 5, .ref sk, .ref na, .ref kp, .int 0, .int 0, .int 0, .int 0, .ref gb, .ref go, .ref fa, .ref ga, .int 0, .int 0, .ref vo])), (kd, .inl (G.2.1, 6, .inl (fun _ => 0))), (mo, .inl (G.2.1, 6, .inl (fun _ => 0))), (st, .inl (G.2.1, 12, .inl (fun _ => 0)))] H := hP
  have hD : va_D A [(h0, .inr (6, [.int 0, .ref kd, .ref mo, .ref st, .int 0, .ref ro, .ref tp, .int 0, .ref cd, .ref sr, .int 1, .int 0, .int 0, .ref ir, .ref ih, .ref ss, .ref sq, .ref ce, .ref lw, .int 40, .int 40, .int 0, .int 0, .ref wo, .ref he, .int 0, .int 0, .int 5, .ref sk, .ref na, .ref kp, .int 0, .int 0, .int 0, .int 0, .ref gb, .ref go, .ref fa, .ref ga, .int 0, .int 0, .ref vo])), (kd, .inl (G.2.1, 6, .inl (fun _ => 0))), (mo, .inl (G.2.1, 6, .inl (fun _ => 0))), (st, .inl (G.2.1, 12, .inl (fun _ => 0)))] := hD
  refine lv_if_eq (tgt := 21) hx hb dX6_pebble_7 (by decide) (fun c_3 => ?_) (fun c_3 => ?_)
  · skip
    have n_5 : ¬ (0 ≤ v0 ∧ v0 ≤ 59) := of_decide_eq_false (bz_eq w_2 c_3)
    refine lv_bipush (v := -2) hx hb dX6_pebble_21 (by decide) ?_
    have hpost : (fun (r : Int32) (u : Unit) => match u with | _ => r = (if (0 ≤ v0 ∧ v0 ≤ 59) ∧ (0 ≤ v1 ∧ v1 ≤ 9999) then 0 else -2)) (-2) () := pp_X6_pebble_0_1 v0 v1 n_5
    exact W.iret (v := (-2)) hx hb hr (fun t ht hW => ⟨⟨(-2), (), rfl, hpost, trivial⟩, hS.F ht⟩) hS.2.2 dX6_pebble_23
  · skip
    have p_4 : 0 ≤ v0 ∧ v0 ≤ 59 := of_decide_eq_true (bz_ne w_2 c_3)
    refine lv_iload_n hx hb dX6_pebble_10 rfl (lv_at hl 2 rfl) ?_
    refine lv_iconst (v := 0) hx hb dX6_pebble_11 (by decide) ?_
    refine lv_sipush (v := 9999) hx hb dX6_pebble_12 (by decide) ?_
    have hPc : va_P G.1 vwCl [] H := hP.sub [] rfl
    have hDc : va_D A [] := hD.sub [] (by decide) rfl
    have hFc := va_free (wc := []) hD hS hA [] rfl
    refine va_calli (va_runS (As := [.int v1, .int 0, .int 9999]) (rest := []) ⟨hx, hb, hml, hown, hts⟩ (c_X6_in l G v1 0 9999 H.size) (va_cwS 3 hts gX6_pebble_X6_in rfl rfl rfl (by decide +kernel) ⟨Nat.le_of_ble_eq_true rfl, Nat.le_of_ble_eq_true rfl⟩) ⟨gPre_blind, fun U hU hW => gPre_of hU hW hK hPc hDc⟩ rfl rfl hl.1 rfl (lv_room (Nat.le_of_ble_eq_true rfl)) dX6_pebble_15 ⟨Nat.le_of_ble_eq_true rfl, Nat.le_of_ble_eq_true rfl⟩) hS (fun q _ h => hFc q h) hFc (fun r_6 u t H locs ht hvm w_7 hB hz1 hk1 hS => ?_)
    obtain ⟨hP1, hK1, hD1⟩ := hB
    rw [ht] at hP1
    have hP1 : va_P G.1 vwCl [] H := hP1
    have hD1 : va_D (va_A [] _) [] := hD1
    have w_7 : r_6 = bz (decide (0 ≤ v1 ∧ v1 ≤ 9999)) := w_7
    obtain ⟨hP, hD⟩ := va_join (wr := [(h0, .inr (6, [.int 0, .ref kd, .ref mo, .ref st, .int 0, .ref ro, .ref tp, .int 0, .ref cd, .ref sr, .int 1, .int 0, .int 0, .ref ir, .ref ih, .ref ss, .ref sq, .ref ce, .ref lw, .int 40, .int 40, .int 0, .int 0, .ref wo, .ref he, .int 0, .int 0, .int 5, .ref sk, .ref na, .ref kp, .int 0, .int 0, .int 0, .int 0, .ref gb, .ref go, .ref fa, .ref ga, .int 0, .int 0, .ref vo])), (kd, .inl (G.2.1, 6, .inl (fun _ => 0))), (mo, .inl (G.2.1, 6, .inl (fun _ => 0))), (st, .inl (G.2.1, 12, .inl (fun _ => 0)))]) (w1 := []) hP hD [] [0, 1, 2, 3] rfl rfl (by decide) (by decide) hk1 hFc hP1 hD1
    have hP : va_P G.1 vwCl [(h0, .inr (6, [.int 0, .ref kd, .ref mo, .ref st, .int 0, .ref ro, .ref tp, .int 0, .ref cd, .ref sr, .int 1, .int 0, .int 0, .ref ir, .ref ih, .ref ss, .ref sq, .ref ce, .ref lw, .int 40, .int 40, .int 0, .int 0, .ref wo, .ref he, .int 0, .int 0, .int 5, .ref sk, .ref na, .ref kp, .int 0, .int 0, .int 0, .int 0, .ref gb, .ref go, .ref fa, .ref ga, .int 0, .int 0, .ref vo])), (kd, .inl (G.2.1, 6, .inl (fun _ => 0))), (mo, .inl (G.2.1, 6, .inl (fun _ => 0))), (st, .inl (G.2.1, 12, .inl (fun _ => 0)))] H := hP
    have hD : va_D A [(h0, .inr (6, [.int 0, .ref kd, .ref mo, .ref st, .int 0, .ref ro, .ref tp, .int 0, .ref cd, .ref sr, .int 1, .int 0, .int 0, .ref ir, .ref ih, .ref ss, .ref sq, .ref ce, .ref lw, .int 40, .int 40, .int 0, .int 0, .ref wo, .ref he, .int 0, .int 0, .int 5, .ref sk, .ref na, .ref kp, .int 0, .int 0, .int 0, .int 0, .ref gb, .ref go, .ref fa, .ref ga, .int 0, .int 0, .ref vo])), (kd, .inl (G.2.1, 6, .inl (fun _ => 0))), (mo, .inl (G.2.1, 6, .inl (fun _ => 0))), (st, .inl (G.2.1, 12, .inl (fun _ => 0)))] := hD
    refine lv_if_ne (tgt := 24) hx hb dX6_pebble_18 (by decide) (fun c_8 => ?_) (fun c_8 => ?_)
    · skip
      have p_9 : 0 ≤ v1 ∧ v1 ≤ 9999 := of_decide_eq_true (bz_ne w_7 c_8)
      refine lv_aload_n hx hb dX6_pebble_24 rfl (lv_at hl 0 rfl) ?_
      refine va_get (D := G.1) (ci := 6) (v := .int 0) (C := RX6) (T := TX6) (N := 42) hx hb hts hiX6 hown hK hP 0 rfl rfl 0 (by decide) kf88 (fun _ h9 => h9) rfl dX6_pebble_25 ?_
      refine lv_bipush (v := 6) hx hb dX6_pebble_28 (by decide) ?_
      refine lv_icmp_ne (tgt := 36) hx hb dX6_pebble_30 (by decide) (fun c_11 => ?_) (fun c_11 => ?_)
      rotate_left
      · exact absurd c_11 (by decide)
      refine lv_aload_n hx hb dX6_pebble_36 rfl (lv_at hl 0 rfl) ?_
      refine va_get (D := G.1) (ci := 6) (v := .ref kd) (C := RX6) (T := TX6) (N := 42) hx hb hts hiX6 hown hK hP 0 rfl rfl 1 (by decide) kf7 (fun _ h9 => h9) rfl dX6_pebble_37 ?_
      refine lv_aload_n hx hb dX6_pebble_40 rfl (lv_at hl 0 rfl) ?_
      refine va_get (D := G.1) (ci := 6) (v := .int 0) (C := RX6) (T := TX6) (N := 42) hx hb hts hiX6 hown hK hP 0 rfl rfl 0 (by decide) kf88 (fun _ h9 => h9) rfl dX6_pebble_41 ?_
      refine lv_iload_n hx hb dX6_pebble_44 rfl (lv_at hl 1 rfl) ?_
      refine lv_bipush (v := 10) hx hb dX6_pebble_45 (by decide) ?_
      refine lv_idiv hx hb dX6_pebble_47 (by decide) ?_
      refine va_iast (D := G.1) hx hb hK hP hD hS 1 0 rfl rfl (i := 0) (x := (v0 / 10)) (gIn (by decide)) dX6_pebble_48 (fun H locs hP hD hS => ?_)
      have hP : va_P G.1 vwCl [(h0, .inr (6, [.int 0, .ref kd, .ref mo, .ref st, .int 0, .ref ro, .ref tp, .int 0, .ref cd, .ref sr, .int 1, .int 0, .int 0, .ref ir, .ref ih, .ref ss, .ref sq, .ref ce, .ref lw, .int 40, .int 40, .int 0, .int 0, .ref wo, .ref he, .int 0, .int 0, .int 5, .ref sk, .ref na, .ref kp, .int 0, .int 0, .int 0, .int 0, .ref gb, .ref go, .ref fa, .ref ga, .int 0, .int 0, .ref vo])), (kd, .inl (G.2.1, 6, .inl (upd (fun _ => 0) 0 (v0 / 10)))), (mo, .inl (G.2.1, 6, .inl (fun _ => 0))), (st, .inl (G.2.1, 12, .inl (fun _ => 0)))] H := hP
      have hD : va_D A [(h0, .inr (6, [.int 0, .ref kd, .ref mo, .ref st, .int 0, .ref ro, .ref tp, .int 0, .ref cd, .ref sr, .int 1, .int 0, .int 0, .ref ir, .ref ih, .ref ss, .ref sq, .ref ce, .ref lw, .int 40, .int 40, .int 0, .int 0, .ref wo, .ref he, .int 0, .int 0, .int 5, .ref sk, .ref na, .ref kp, .int 0, .int 0, .int 0, .int 0, .ref gb, .ref go, .ref fa, .ref ga, .int 0, .int 0, .ref vo])), (kd, .inl (G.2.1, 6, .inl (upd (fun _ => 0) 0 (v0 / 10)))), (mo, .inl (G.2.1, 6, .inl (fun _ => 0))), (st, .inl (G.2.1, 12, .inl (fun _ => 0)))] := hD
      refine lv_aload_n hx hb dX6_pebble_49 rfl (lv_at hl 0 rfl) ?_
      refine va_get (D := G.1) (ci := 6) (v := .ref mo) (C := RX6) (T := TX6) (N := 42) hx hb hts hiX6 hown hK hP 0 rfl rfl 2 (by decide) kf13 (fun _ h9 => h9) rfl dX6_pebble_50 ?_
      refine lv_aload_n hx hb dX6_pebble_53 rfl (lv_at hl 0 rfl) ?_
      refine va_get (D := G.1) (ci := 6) (v := .int 0) (C := RX6) (T := TX6) (N := 42) hx hb hts hiX6 hown hK hP 0 rfl rfl 0 (by decide) kf88 (fun _ h9 => h9) rfl dX6_pebble_54 ?_
      refine lv_iload_n hx hb dX6_pebble_57 rfl (lv_at hl 1 rfl) ?_
      refine lv_bipush (v := 10) hx hb dX6_pebble_58 (by decide) ?_
      refine lv_irem hx hb dX6_pebble_60 (by decide) ?_
      refine va_iast (D := G.1) hx hb hK hP hD hS 2 0 rfl rfl (i := 0) (x := (v0 - v0 / 10 * 10)) (gIn (by decide)) dX6_pebble_61 (fun H locs hP hD hS => ?_)
      have hP : va_P G.1 vwCl [(h0, .inr (6, [.int 0, .ref kd, .ref mo, .ref st, .int 0, .ref ro, .ref tp, .int 0, .ref cd, .ref sr, .int 1, .int 0, .int 0, .ref ir, .ref ih, .ref ss, .ref sq, .ref ce, .ref lw, .int 40, .int 40, .int 0, .int 0, .ref wo, .ref he, .int 0, .int 0, .int 5, .ref sk, .ref na, .ref kp, .int 0, .int 0, .int 0, .int 0, .ref gb, .ref go, .ref fa, .ref ga, .int 0, .int 0, .ref vo])), (kd, .inl (G.2.1, 6, .inl (upd (fun _ => 0) 0 (v0 / 10)))), (mo, .inl (G.2.1, 6, .inl (upd (fun _ => 0) 0 (v0 - v0 / 10 * 10)))), (st, .inl (G.2.1, 12, .inl (fun _ => 0)))] H := hP
      have hD : va_D A [(h0, .inr (6, [.int 0, .ref kd, .ref mo, .ref st, .int 0, .ref ro, .ref tp, .int 0, .ref cd, .ref sr, .int 1, .int 0, .int 0, .ref ir, .ref ih, .ref ss, .ref sq, .ref ce, .ref lw, .int 40, .int 40, .int 0, .int 0, .ref wo, .ref he, .int 0, .int 0, .int 5, .ref sk, .ref na, .ref kp, .int 0, .int 0, .int 0, .int 0, .ref gb, .ref go, .ref fa, .ref ga, .int 0, .int 0, .ref vo])), (kd, .inl (G.2.1, 6, .inl (upd (fun _ => 0) 0 (v0 / 10)))), (mo, .inl (G.2.1, 6, .inl (upd (fun _ => 0) 0 (v0 - v0 / 10 * 10)))), (st, .inl (G.2.1, 12, .inl (fun _ => 0)))] := hD
      refine lv_aload_n hx hb dX6_pebble_62 rfl (lv_at hl 0 rfl) ?_
      refine va_get (D := G.1) (ci := 6) (v := .ref st) (C := RX6) (T := TX6) (N := 42) hx hb hts hiX6 hown hK hP 0 rfl rfl 3 (by decide) kf16 (fun _ h9 => h9) rfl dX6_pebble_63 ?_
      refine lv_iconst (v := 2) hx hb dX6_pebble_66 (by decide) ?_
      refine lv_aload_n hx hb dX6_pebble_67 rfl (lv_at hl 0 rfl) ?_
      refine va_get (D := G.1) (ci := 6) (v := .int 0) (C := RX6) (T := TX6) (N := 42) hx hb hts hiX6 hown hK hP 0 rfl rfl 0 (by decide) kf88 (fun _ h9 => h9) rfl dX6_pebble_68 ?_
      refine lv_imul hx hb dX6_pebble_71 ?_
      refine lv_topi (fun v_12 ev_12 => ?_)
      have ev_12 : v_12 = 0 := ev_12.trans (by decide)
      subst ev_12
      refine lv_iload_n hx hb dX6_pebble_72 rfl (lv_at hl 2 rfl) ?_
      refine lv_bipush (v := 100) hx hb dX6_pebble_73 (by decide) ?_
      refine lv_idiv hx hb dX6_pebble_75 (by decide) ?_
      refine va_iast (D := G.1) hx hb hK hP hD hS 3 0 rfl rfl (i := 0) (x := (v1 / 100)) (gIn (by decide)) dX6_pebble_76 (fun H locs hP hD hS => ?_)
      have hP : va_P G.1 vwCl [(h0, .inr (6, [.int 0, .ref kd, .ref mo, .ref st, .int 0, .ref ro, .ref tp, .int 0, .ref cd, .ref sr, .int 1, .int 0, .int 0, .ref ir, .ref ih, .ref ss, .ref sq, .ref ce, .ref lw, .int 40, .int 40, .int 0, .int 0, .ref wo, .ref he, .int 0, .int 0, .int 5, .ref sk, .ref na, .ref kp, .int 0, .int 0, .int 0, .int 0, .ref gb, .ref go, .ref fa, .ref ga, .int 0, .int 0, .ref vo])), (kd, .inl (G.2.1, 6, .inl (upd (fun _ => 0) 0 (v0 / 10)))), (mo, .inl (G.2.1, 6, .inl (upd (fun _ => 0) 0 (v0 - v0 / 10 * 10)))), (st, .inl (G.2.1, 12, .inl (upd (fun _ => 0) 0 (v1 / 100))))] H := hP
      have hD : va_D A [(h0, .inr (6, [.int 0, .ref kd, .ref mo, .ref st, .int 0, .ref ro, .ref tp, .int 0, .ref cd, .ref sr, .int 1, .int 0, .int 0, .ref ir, .ref ih, .ref ss, .ref sq, .ref ce, .ref lw, .int 40, .int 40, .int 0, .int 0, .ref wo, .ref he, .int 0, .int 0, .int 5, .ref sk, .ref na, .ref kp, .int 0, .int 0, .int 0, .int 0, .ref gb, .ref go, .ref fa, .ref ga, .int 0, .int 0, .ref vo])), (kd, .inl (G.2.1, 6, .inl (upd (fun _ => 0) 0 (v0 / 10)))), (mo, .inl (G.2.1, 6, .inl (upd (fun _ => 0) 0 (v0 - v0 / 10 * 10)))), (st, .inl (G.2.1, 12, .inl (upd (fun _ => 0) 0 (v1 / 100))))] := hD
      refine lv_aload_n hx hb dX6_pebble_77 rfl (lv_at hl 0 rfl) ?_
      refine va_get (D := G.1) (ci := 6) (v := .ref st) (C := RX6) (T := TX6) (N := 42) hx hb hts hiX6 hown hK hP 0 rfl rfl 3 (by decide) kf16 (fun _ h9 => h9) rfl dX6_pebble_78 ?_
      refine lv_iconst (v := 2) hx hb dX6_pebble_81 (by decide) ?_
      refine lv_aload_n hx hb dX6_pebble_82 rfl (lv_at hl 0 rfl) ?_
      refine va_get (D := G.1) (ci := 6) (v := .int 0) (C := RX6) (T := TX6) (N := 42) hx hb hts hiX6 hown hK hP 0 rfl rfl 0 (by decide) kf88 (fun _ h9 => h9) rfl dX6_pebble_83 ?_
      refine lv_imul hx hb dX6_pebble_86 ?_
      refine lv_topi (fun v_13 ev_13 => ?_)
      have ev_13 : v_13 = 0 := ev_13.trans (by decide)
      subst ev_13
      refine lv_iconst (v := 1) hx hb dX6_pebble_87 (by decide) ?_
      refine lv_iadd hx hb dX6_pebble_88 ?_
      refine lv_topi (fun v_14 ev_14 => ?_)
      have ev_14 : v_14 = 1 := ev_14.trans (by decide)
      subst ev_14
      refine lv_iload_n hx hb dX6_pebble_89 rfl (lv_at hl 2 rfl) ?_
      refine lv_bipush (v := 100) hx hb dX6_pebble_90 (by decide) ?_
      refine lv_irem hx hb dX6_pebble_92 (by decide) ?_
      refine va_iast (D := G.1) hx hb hK hP hD hS 3 0 rfl rfl (i := 1) (x := (v1 - v1 / 100 * 100)) (gIn (by decide)) dX6_pebble_93 (fun H locs hP hD hS => ?_)
      have hP : va_P G.1 vwCl [(h0, .inr (6, [.int 0, .ref kd, .ref mo, .ref st, .int 0, .ref ro, .ref tp, .int 0, .ref cd, .ref sr, .int 1, .int 0, .int 0, .ref ir, .ref ih, .ref ss, .ref sq, .ref ce, .ref lw, .int 40, .int 40, .int 0, .int 0, .ref wo, .ref he, .int 0, .int 0, .int 5, .ref sk, .ref na, .ref kp, .int 0, .int 0, .int 0, .int 0, .ref gb, .ref go, .ref fa, .ref ga, .int 0, .int 0, .ref vo])), (kd, .inl (G.2.1, 6, .inl (upd (fun _ => 0) 0 (v0 / 10)))), (mo, .inl (G.2.1, 6, .inl (upd (fun _ => 0) 0 (v0 - v0 / 10 * 10)))), (st, .inl (G.2.1, 12, .inl (upd (upd (fun _ => 0) 0 (v1 / 100)) 1 (v1 - v1 / 100 * 100))))] H := hP
      have hD : va_D A [(h0, .inr (6, [.int 0, .ref kd, .ref mo, .ref st, .int 0, .ref ro, .ref tp, .int 0, .ref cd, .ref sr, .int 1, .int 0, .int 0, .ref ir, .ref ih, .ref ss, .ref sq, .ref ce, .ref lw, .int 40, .int 40, .int 0, .int 0, .ref wo, .ref he, .int 0, .int 0, .int 5, .ref sk, .ref na, .ref kp, .int 0, .int 0, .int 0, .int 0, .ref gb, .ref go, .ref fa, .ref ga, .int 0, .int 0, .ref vo])), (kd, .inl (G.2.1, 6, .inl (upd (fun _ => 0) 0 (v0 / 10)))), (mo, .inl (G.2.1, 6, .inl (upd (fun _ => 0) 0 (v0 - v0 / 10 * 10)))), (st, .inl (G.2.1, 12, .inl (upd (upd (fun _ => 0) 0 (v1 / 100)) 1 (v1 - v1 / 100 * 100))))] := hD
      refine lv_aload_n hx hb dX6_pebble_94 rfl (lv_at hl 0 rfl) ?_
      refine lv_dup hx hb dX6_pebble_95 rfl ?_
      refine va_get (D := G.1) (ci := 6) (v := .int 0) (C := RX6) (T := TX6) (N := 42) hx hb hts hiX6 hown hK hP 0 rfl rfl 0 (by decide) kf88 (fun _ h9 => h9) rfl dX6_pebble_96 ?_
      refine lv_iconst (v := 1) hx hb dX6_pebble_99 (by decide) ?_
      refine lv_iadd hx hb dX6_pebble_100 ?_
      refine lv_topi (fun v_15 ev_15 => ?_)
      have ev_15 : v_15 = 1 := ev_15.trans (by decide)
      subst ev_15
      refine va_put (D := G.1) (ci := 6) (v := .int 1) (ty := .int) (C := RX6) (T := TX6) (N := 42) hx hb hts hiX6 tyX6 tyX6_ok nmX6 hown hK hP hD hS 0 rfl rfl 0 (by decide) kf88 (fun _ h9 => h9) rfl (by decide +kernel) rfl rfl (Nat.le_of_ble_eq_true rfl) dX6_pebble_101 (fun H locs hP hD hS => ?_)
      have hP : va_P G.1 vwCl [(h0, .inr (6, [.int 1, .ref kd, .ref mo, .ref st, .int 0, .ref ro, .ref tp, .int 0, .ref cd, .ref sr, .int 1, .int 0, .int 0, .ref ir, .ref ih, .ref ss, .ref sq, .ref ce, .ref lw, .int 40, .int 40, .int 0, .int 0, .ref wo, .ref he, .int 0, .int 0, .int 5, .ref sk, .ref na, .ref kp, .int 0, .int 0, .int 0, .int 0, .ref gb, .ref go, .ref fa, .ref ga, .int 0, .int 0, .ref vo])), (kd, .inl (G.2.1, 6, .inl (upd (fun _ => 0) 0 (v0 / 10)))), (mo, .inl (G.2.1, 6, .inl (upd (fun _ => 0) 0 (v0 - v0 / 10 * 10)))), (st, .inl (G.2.1, 12, .inl (upd (upd (fun _ => 0) 0 (v1 / 100)) 1 (v1 - v1 / 100 * 100))))] H := hP
      have hD : va_D A [(h0, .inr (6, [.int 1, .ref kd, .ref mo, .ref st, .int 0, .ref ro, .ref tp, .int 0, .ref cd, .ref sr, .int 1, .int 0, .int 0, .ref ir, .ref ih, .ref ss, .ref sq, .ref ce, .ref lw, .int 40, .int 40, .int 0, .int 0, .ref wo, .ref he, .int 0, .int 0, .int 5, .ref sk, .ref na, .ref kp, .int 0, .int 0, .int 0, .int 0, .ref gb, .ref go, .ref fa, .ref ga, .int 0, .int 0, .ref vo])), (kd, .inl (G.2.1, 6, .inl (upd (fun _ => 0) 0 (v0 / 10)))), (mo, .inl (G.2.1, 6, .inl (upd (fun _ => 0) 0 (v0 - v0 / 10 * 10)))), (st, .inl (G.2.1, 12, .inl (upd (upd (fun _ => 0) 0 (v1 / 100)) 1 (v1 - v1 / 100 * 100))))] := hD
      refine lv_aload_n hx hb dX6_pebble_104 rfl (lv_at hl 0 rfl) ?_
      refine va_get (D := G.1) (ci := 6) (v := .int 1) (C := RX6) (T := TX6) (N := 42) hx hb hts hiX6 hown hK hP 0 rfl rfl 0 (by decide) kf88 (fun _ h9 => h9) rfl dX6_pebble_105 ?_
      refine lv_iconst (v := 1) hx hb dX6_pebble_108 (by decide) ?_
      refine lv_isub hx hb dX6_pebble_109 ?_
      refine lv_topi (fun v_16 ev_16 => ?_)
      have ev_16 : v_16 = 0 := ev_16.trans (by decide)
      subst ev_16
      have hpost : (fun (r : Int32) (u : Unit) => match u with | _ => r = (if (0 ≤ v0 ∧ v0 ≤ 59) ∧ (0 ≤ v1 ∧ v1 ≤ 9999) then 0 else -2)) 0 () := pp_X6_pebble_0_2 v0 v1 p_4 p_9
      exact W.iret (v := 0) hx hb hr (fun t ht hW => ⟨⟨0, (), rfl, hpost, trivial⟩, hS.F ht⟩) hS.2.2 dX6_pebble_110
    · skip
      have n_10 : ¬ (0 ≤ v1 ∧ v1 ≤ 9999) := of_decide_eq_false (bz_eq w_7 c_8)
      refine lv_bipush (v := -2) hx hb dX6_pebble_21 (by decide) ?_
      have hpost : (fun (r : Int32) (u : Unit) => match u with | _ => r = (if (0 ≤ v0 ∧ v0 ≤ 59) ∧ (0 ≤ v1 ∧ v1 ≤ 9999) then 0 else -2)) (-2) () := pp_X6_pebble_0_3 v0 v1 p_4 n_10
      exact W.iret (v := (-2)) hx hb hr (fun t ht hW => ⟨⟨(-2), (), rfl, hpost, trivial⟩, hS.F ht⟩) hS.2.2 dX6_pebble_23
abbrev q_X6_reversed_0 (G : gG) (h0 kd mo st ro tp cd sr ir ih ss sq ce lw wo he sk na kp gb go fa ga vo : Nat) (v0 : Int32) (v1 : Int32) (A : Nat → Prop) : Array Value → State → Outcome → State → Prop := va_Qi (fun (r : Int32) (u : Unit) => match u with | _ => r = (if 0 ≤ v0 ∧ v0 ≤ 3 then -11 else -2)) (fun (u : Unit) t => match u with | _ => True) A
set_option maxHeartbeats 4000000 in
set_option maxRecDepth 100000 in
theorem c_X6_reversed_0 (l : Launch) (G : gG) (h0 kd mo st ro tp cd sr ir ih ss sq ce lw wo he sk na kp gb go fa ga vo : Nat) (v0 : Int32) (v1 : Int32) (sz : Nat) : Met l yX6_reversed wsX6_reversed ({ frames := 3, cells := 0, slots := 0, locals := 69 }) (gPre G [.ref h0, .int v0, .int v1] [(h0, .inr (6, [.int 0, .ref kd, .ref mo, .ref st, .int 0, .ref ro, .ref tp, .int 0, .ref cd, .ref sr, .int 1, .int 0, .int 0, .ref ir, .ref ih, .ref ss, .ref sq, .ref ce, .ref lw, .int 40, .int 40, .int 0, .int 0, .ref wo, .ref he, .int 0, .int 0, .int 5, .ref sk, .ref na, .ref kp, .int 0, .int 0, .int 0, .int 0, .ref gb, .ref go, .ref fa, .ref ga, .int 0, .int 0, .ref vo])), (ss, .inl (G.2.1, 4, .inl (upd (upd (upd (upd (fun _ => 0) 0 (-1)) 1 (-1)) 2 (-1)) 3 (-1))))] sz) (q_X6_reversed_0 G h0 kd mo st ro tp cd sr ir ih ss sq ce lw wo he sk na kp gb go fa ga vo v0 v1 (va_A [(h0, .inr (6, [.int 0, .ref kd, .ref mo, .ref st, .int 0, .ref ro, .ref tp, .int 0, .ref cd, .ref sr, .int 1, .int 0, .int 0, .ref ir, .ref ih, .ref ss, .ref sq, .ref ce, .ref lw, .int 40, .int 40, .int 0, .int 0, .ref wo, .ref he, .int 0, .int 0, .int 5, .ref sk, .ref na, .ref kp, .int 0, .int 0, .int 0, .int 0, .ref gb, .ref go, .ref fa, .ref ga, .int 0, .int 0, .ref vo])), (ss, .inl (G.2.1, 4, .inl (upd (upd (upd (upd (fun _ => 0) 0 (-1)) 1 (-1)) 2 (-1)) 3 (-1))))] sz)) 0 0 (va_A [(h0, .inr (6, [.int 0, .ref kd, .ref mo, .ref st, .int 0, .ref ro, .ref tp, .int 0, .ref cd, .ref sr, .int 1, .int 0, .int 0, .ref ir, .ref ih, .ref ss, .ref sq, .ref ce, .ref lw, .int 40, .int 40, .int 0, .int 0, .ref wo, .ref he, .int 0, .int 0, .int 5, .ref sk, .ref na, .ref kp, .int 0, .int 0, .int 0, .int 0, .ref gb, .ref go, .ref fa, .ref ga, .int 0, .int 0, .ref vo])), (ss, .inl (G.2.1, 4, .inl (upd (upd (upd (upd (fun _ => 0) 0 (-1)) 1 (-1)) 2 (-1)) 3 (-1))))] sz) := by
  refine Met.ofW (cc := cX6_reversed) (maxL := 4) (ret := (some .int)) (by decide) rfl ?_
  intro p e s m args below meth c s₁ B hml hv
  obtain ⟨rfl, hsz, hP, hK, hD0⟩ := hv
  have hx := B.exec
  have hb := B.bytes
  have hr := B.returns
  have hts := atoms_spec (ws := wsX6_reversed) B.pre
  have hown : s.vm.findClass RX6 = some m.cls := findClass_of_methodNamed B.named
  have hlocks := B.notSynchronized
  subst hsz
  have hD := hD0.self (sz := s.heap.size)
  generalize hAe : va_A [(h0, .inr (6, [.int 0, .ref kd, .ref mo, .ref st, .int 0, .ref ro, .ref tp, .int 0, .ref cd, .ref sr, .int 1, .int 0, .int 0, .ref ir, .ref ih, .ref ss, .ref sq, .ref ce, .ref lw, .int 40, .int 40, .int 0, .int 0, .ref wo, .ref he, .int 0, .int 0, .int 5, .ref sk, .ref na, .ref kp, .int 0, .int 0, .int 0, .int 0, .ref gb, .ref go, .ref fa, .ref ga, .int 0, .int 0, .ref vo])), (ss, .inl (G.2.1, 4, .inl (upd (upd (upd (upd (fun _ => 0) 0 (-1)) 1 (-1)) 2 (-1)) 3 (-1))))] s.heap.size = A at hD ⊢
  have hA : ∀ q : Nat, s.heap.size ≤ q → A q := fun q h => by rw [← hAe]; exact Or.inr h
  have hS : va_S A s.heap s.heap [] := va_S.rf
  have hP : va_P G.1 vwCl [(h0, .inr (6, [.int 0, .ref kd, .ref mo, .ref st, .int 0, .ref ro, .ref tp, .int 0, .ref cd, .ref sr, .int 1, .int 0, .int 0, .ref ir, .ref ih, .ref ss, .ref sq, .ref ce, .ref lw, .int 40, .int 40, .int 0, .int 0, .ref wo, .ref he, .int 0, .int 0, .int 5, .ref sk, .ref na, .ref kp, .int 0, .int 0, .int 0, .int 0, .ref gb, .ref go, .ref fa, .ref ga, .int 0, .int 0, .ref vo])), (ss, .inl (G.2.1, 4, .inl (upd (upd (upd (upd (fun _ => 0) 0 (-1)) 1 (-1)) 2 (-1)) 3 (-1))))] s.heap := hP
  have hD : va_D A [(h0, .inr (6, [.int 0, .ref kd, .ref mo, .ref st, .int 0, .ref ro, .ref tp, .int 0, .ref cd, .ref sr, .int 1, .int 0, .int 0, .ref ir, .ref ih, .ref ss, .ref sq, .ref ce, .ref lw, .int 40, .int 40, .int 0, .int 0, .ref wo, .ref he, .int 0, .int 0, .int 5, .ref sk, .ref na, .ref kp, .int 0, .int 0, .int 0, .int 0, .ref gb, .ref go, .ref fa, .ref ga, .int 0, .int 0, .ref vo])), (ss, .inl (G.2.1, 4, .inl (upd (upd (upd (upd (fun _ => 0) 0 (-1)) 1 (-1)) 2 (-1)) 3 (-1))))] := hD
  have hl := lv_entry ([.ref h0, .int v0, .int v1]) (n := 4) (Nat.le_of_ble_eq_true rfl)
  rw [lg_entry_eq]
  generalize (lg_sl ([.ref h0, .int v0, .int v1]) ++ List.replicate (4 - (lg_sl ([.ref h0, .int v0, .int v1])).length) Slot.unset).toArray = ls at hl ⊢
  have hl : lv_has ls 4 [(0, .ref h0), (1, .int v0), (2, .int v1)] := hl
  refine lv_aload_n hx hb dX6_reversed_0 rfl (lv_at hl 0 rfl) ?_
  refine lv_iload_n hx hb dX6_reversed_1 rfl (lv_at hl 1 rfl) ?_
  refine lv_iload_n hx hb dX6_reversed_2 rfl (lv_at hl 2 rfl) ?_
  have hPc : va_P G.1 vwCl [(h0, .inr (6, [.int 0, .ref kd, .ref mo, .ref st, .int 0, .ref ro, .ref tp, .int 0, .ref cd, .ref sr, .int 1, .int 0, .int 0, .ref ir, .ref ih, .ref ss, .ref sq, .ref ce, .ref lw, .int 40, .int 40, .int 0, .int 0, .ref wo, .ref he, .int 0, .int 0, .int 5, .ref sk, .ref na, .ref kp, .int 0, .int 0, .int 0, .int 0, .ref gb, .ref go, .ref fa, .ref ga, .int 0, .int 0, .ref vo])), (ss, .inl (G.2.1, 4, .inl (upd (upd (upd (upd (fun _ => 0) 0 (-1)) 1 (-1)) 2 (-1)) 3 (-1))))] s.heap := hP.sub [0, 1] rfl
  have hDc : va_D A [(h0, .inr (6, [.int 0, .ref kd, .ref mo, .ref st, .int 0, .ref ro, .ref tp, .int 0, .ref cd, .ref sr, .int 1, .int 0, .int 0, .ref ir, .ref ih, .ref ss, .ref sq, .ref ce, .ref lw, .int 40, .int 40, .int 0, .int 0, .ref wo, .ref he, .int 0, .int 0, .int 5, .ref sk, .ref na, .ref kp, .int 0, .int 0, .int 0, .int 0, .ref gb, .ref go, .ref fa, .ref ga, .int 0, .int 0, .ref vo])), (ss, .inl (G.2.1, 4, .inl (upd (upd (upd (upd (fun _ => 0) 0 (-1)) 1 (-1)) 2 (-1)) 3 (-1))))] := hD.sub [0, 1] (by decide) rfl
  have hFc := va_free (wc := [(h0, .inr (6, [.int 0, .ref kd, .ref mo, .ref st, .int 0, .ref ro, .ref tp, .int 0, .ref cd, .ref sr, .int 1, .int 0, .int 0, .ref ir, .ref ih, .ref ss, .ref sq, .ref ce, .ref lw, .int 40, .int 40, .int 0, .int 0, .ref wo, .ref he, .int 0, .int 0, .int 5, .ref sk, .ref na, .ref kp, .int 0, .int 0, .int 0, .int 0, .ref gb, .ref go, .ref fa, .ref ga, .int 0, .int 0, .ref vo])), (ss, .inl (G.2.1, 4, .inl (upd (upd (upd (upd (fun _ => 0) 0 (-1)) 1 (-1)) 2 (-1)) 3 (-1))))]) hD hS hA [0, 1] rfl
  refine va_calli (va_runV (As := [.int v0, .int v1]) (rest := []) ⟨hx, hb, hml, hown, hts⟩ (c_X6_toldWrong_0 l G h0 kd mo st ro tp cd sr ir ih ss sq ce lw wo he sk na kp gb go fa ga vo v0 v1 s.heap.size) (cwV 2 hts gX6_reversed_X6_toldWrong rfl rfl rfl (by decide +kernel) ⟨Nat.le_of_ble_eq_true rfl, Nat.le_of_ble_eq_true rfl⟩) ⟨gPre_blind, va_recv hK hPc (ci := 6) (q0 := 0) rfl rfl, fun U hU hW => gPre_of hU hW hK hPc hDc⟩ rfl rfl hl.1 rfl (lv_room (Nat.le_of_ble_eq_true rfl)) dX6_reversed_3 ⟨Nat.le_of_ble_eq_true rfl, Nat.le_of_ble_eq_true rfl⟩) hS (fun q _ h => hFc q h) hFc (fun r_1 u t H locs ht hvm w_2 hB hz1 hk1 hS => ?_)
  obtain ⟨hP1, hK1, hD1⟩ := hB
  rw [ht] at hP1
  have hP1 : va_P G.1 vwCl [(h0, .inr (6, [.int 0, .ref kd, .ref mo, .ref st, .int 0, .ref ro, .ref tp, .int 0, .ref cd, .ref sr, .int 1, .int 0, .int 0, .ref ir, .ref ih, .ref ss, .ref sq, .ref ce, .ref lw, .int 40, .int 40, .int 0, .int 0, .ref wo, .ref he, .int 0, .int 0, .int 5, .ref sk, .ref na, .ref kp, .int 0, .int 0, .int 0, .int 0, .ref gb, .ref go, .ref fa, .ref ga, .int 0, .int 0, .ref vo])), (ss, .inl (G.2.1, 4, .inl (upd (upd (upd (upd (fun _ => 0) 0 (-1)) 1 (-1)) 2 (-1)) 3 (-1))))] H := hP1
  have hD1 : va_D (va_A [(h0, .inr (6, [.int 0, .ref kd, .ref mo, .ref st, .int 0, .ref ro, .ref tp, .int 0, .ref cd, .ref sr, .int 1, .int 0, .int 0, .ref ir, .ref ih, .ref ss, .ref sq, .ref ce, .ref lw, .int 40, .int 40, .int 0, .int 0, .ref wo, .ref he, .int 0, .int 0, .int 5, .ref sk, .ref na, .ref kp, .int 0, .int 0, .int 0, .int 0, .ref gb, .ref go, .ref fa, .ref ga, .int 0, .int 0, .ref vo])), (ss, .inl (G.2.1, 4, .inl (upd (upd (upd (upd (fun _ => 0) 0 (-1)) 1 (-1)) 2 (-1)) 3 (-1))))] s.heap.size) [(h0, .inr (6, [.int 0, .ref kd, .ref mo, .ref st, .int 0, .ref ro, .ref tp, .int 0, .ref cd, .ref sr, .int 1, .int 0, .int 0, .ref ir, .ref ih, .ref ss, .ref sq, .ref ce, .ref lw, .int 40, .int 40, .int 0, .int 0, .ref wo, .ref he, .int 0, .int 0, .int 5, .ref sk, .ref na, .ref kp, .int 0, .int 0, .int 0, .int 0, .ref gb, .ref go, .ref fa, .ref ga, .int 0, .int 0, .ref vo])), (ss, .inl (G.2.1, 4, .inl (upd (upd (upd (upd (fun _ => 0) 0 (-1)) 1 (-1)) 2 (-1)) 3 (-1))))] := hD1
  have w_2 : r_1 = (if 0 ≤ v0 ∧ v0 ≤ 3 then -11 else -2) := w_2
  obtain ⟨hP, hD⟩ := va_join (wr := []) (w1 := [(h0, .inr (6, [.int 0, .ref kd, .ref mo, .ref st, .int 0, .ref ro, .ref tp, .int 0, .ref cd, .ref sr, .int 1, .int 0, .int 0, .ref ir, .ref ih, .ref ss, .ref sq, .ref ce, .ref lw, .int 40, .int 40, .int 0, .int 0, .ref wo, .ref he, .int 0, .int 0, .int 5, .ref sk, .ref na, .ref kp, .int 0, .int 0, .int 0, .int 0, .ref gb, .ref go, .ref fa, .ref ga, .int 0, .int 0, .ref vo])), (ss, .inl (G.2.1, 4, .inl (upd (upd (upd (upd (fun _ => 0) 0 (-1)) 1 (-1)) 2 (-1)) 3 (-1))))]) hP hD [0, 1] [] rfl rfl (by decide) (by decide) hk1 hFc hP1 hD1
  have hP : va_P G.1 vwCl [(h0, .inr (6, [.int 0, .ref kd, .ref mo, .ref st, .int 0, .ref ro, .ref tp, .int 0, .ref cd, .ref sr, .int 1, .int 0, .int 0, .ref ir, .ref ih, .ref ss, .ref sq, .ref ce, .ref lw, .int 40, .int 40, .int 0, .int 0, .ref wo, .ref he, .int 0, .int 0, .int 5, .ref sk, .ref na, .ref kp, .int 0, .int 0, .int 0, .int 0, .ref gb, .ref go, .ref fa, .ref ga, .int 0, .int 0, .ref vo])), (ss, .inl (G.2.1, 4, .inl (upd (upd (upd (upd (fun _ => 0) 0 (-1)) 1 (-1)) 2 (-1)) 3 (-1))))] H := hP
  have hD : va_D A [(h0, .inr (6, [.int 0, .ref kd, .ref mo, .ref st, .int 0, .ref ro, .ref tp, .int 0, .ref cd, .ref sr, .int 1, .int 0, .int 0, .ref ir, .ref ih, .ref ss, .ref sq, .ref ce, .ref lw, .int 40, .int 40, .int 0, .int 0, .ref wo, .ref he, .int 0, .int 0, .int 5, .ref sk, .ref na, .ref kp, .int 0, .int 0, .int 0, .int 0, .ref gb, .ref go, .ref fa, .ref ga, .int 0, .int 0, .ref vo])), (ss, .inl (G.2.1, 4, .inl (upd (upd (upd (upd (fun _ => 0) 0 (-1)) 1 (-1)) 2 (-1)) 3 (-1))))] := hD
  have hne : ¬ r_1 = 0 := by rw [w_2]; exact g_ne _
  have hrv := w_2
  refine lv_istore_n (lv' := [(3, .int r_1), (0, .ref h0), (1, .int v0), (2, .int v1)]) hx hb dX6_reversed_6 rfl hl (by decide) rfl (fun ls hl => ?_)
  refine lv_iload_n hx hb dX6_reversed_7 rfl (lv_at hl 0 rfl) ?_
  refine lv_if_ne (tgt := 20) hx hb dX6_reversed_8 (by decide) (fun c_3 => ?_) (fun c_3 => ?_)
  rotate_left
  · exact absurd c_3 (hne)
  refine lv_iload_n hx hb dX6_reversed_20 rfl (lv_at hl 0 rfl) ?_
  have hpost : (fun (r : Int32) (u : Unit) => match u with | _ => r = (if 0 ≤ v0 ∧ v0 ≤ 3 then -11 else -2)) r_1 () := hrv
  exact W.iret (v := r_1) hx hb hr (fun t ht hW => ⟨⟨r_1, (), rfl, hpost, trivial⟩, hS.F ht⟩) hS.2.2 dX6_reversed_21
abbrev q_X6_kinds_0 (G : gG) (h0 kd mo st ro tp cd sr ir ih ss sq ce lw wo he sk na kp gb go fa ga vo : Nat) (v0 : Int32) (v1 : Int32) (v2 : Int32) (v3 : Int32) (A : Nat → Prop) : Array Value → State → Outcome → State → Prop := va_Qi (fun (r : Int32) (u : Unit) => match u with | _ => r = (if 0 ≤ v0 ∧ v0 ≤ 3 then -11 else -2)) (fun (u : Unit) t => match u with | _ => True) A
set_option maxHeartbeats 4000000 in
set_option maxRecDepth 100000 in
theorem c_X6_kinds_0 (l : Launch) (G : gG) (h0 kd mo st ro tp cd sr ir ih ss sq ce lw wo he sk na kp gb go fa ga vo : Nat) (v0 : Int32) (v1 : Int32) (v2 : Int32) (v3 : Int32) (sz : Nat) : Met l yX6_kinds wsX6_kinds ({ frames := 3, cells := 0, slots := 0, locals := 69 }) (gPre G [.ref h0, .int v0, .int v1, .int v2, .int v3] [(h0, .inr (6, [.int 0, .ref kd, .ref mo, .ref st, .int 0, .ref ro, .ref tp, .int 0, .ref cd, .ref sr, .int 1, .int 0, .int 0, .ref ir, .ref ih, .ref ss, .ref sq, .ref ce, .ref lw, .int 40, .int 40, .int 0, .int 0, .ref wo, .ref he, .int 0, .int 0, .int 5, .ref sk, .ref na, .ref kp, .int 0, .int 0, .int 0, .int 0, .ref gb, .ref go, .ref fa, .ref ga, .int 0, .int 0, .ref vo])), (ss, .inl (G.2.1, 4, .inl (upd (upd (upd (upd (fun _ => 0) 0 (-1)) 1 (-1)) 2 (-1)) 3 (-1))))] sz) (q_X6_kinds_0 G h0 kd mo st ro tp cd sr ir ih ss sq ce lw wo he sk na kp gb go fa ga vo v0 v1 v2 v3 (va_A [(h0, .inr (6, [.int 0, .ref kd, .ref mo, .ref st, .int 0, .ref ro, .ref tp, .int 0, .ref cd, .ref sr, .int 1, .int 0, .int 0, .ref ir, .ref ih, .ref ss, .ref sq, .ref ce, .ref lw, .int 40, .int 40, .int 0, .int 0, .ref wo, .ref he, .int 0, .int 0, .int 5, .ref sk, .ref na, .ref kp, .int 0, .int 0, .int 0, .int 0, .ref gb, .ref go, .ref fa, .ref ga, .int 0, .int 0, .ref vo])), (ss, .inl (G.2.1, 4, .inl (upd (upd (upd (upd (fun _ => 0) 0 (-1)) 1 (-1)) 2 (-1)) 3 (-1))))] sz)) 0 0 (va_A [(h0, .inr (6, [.int 0, .ref kd, .ref mo, .ref st, .int 0, .ref ro, .ref tp, .int 0, .ref cd, .ref sr, .int 1, .int 0, .int 0, .ref ir, .ref ih, .ref ss, .ref sq, .ref ce, .ref lw, .int 40, .int 40, .int 0, .int 0, .ref wo, .ref he, .int 0, .int 0, .int 5, .ref sk, .ref na, .ref kp, .int 0, .int 0, .int 0, .int 0, .ref gb, .ref go, .ref fa, .ref ga, .int 0, .int 0, .ref vo])), (ss, .inl (G.2.1, 4, .inl (upd (upd (upd (upd (fun _ => 0) 0 (-1)) 1 (-1)) 2 (-1)) 3 (-1))))] sz) := by
  refine Met.ofW (cc := cX6_kinds) (maxL := 10) (ret := (some .int)) (by decide) rfl ?_
  intro p e s m args below meth c s₁ B hml hv
  obtain ⟨rfl, hsz, hP, hK, hD0⟩ := hv
  have hx := B.exec
  have hb := B.bytes
  have hr := B.returns
  have hts := atoms_spec (ws := wsX6_kinds) B.pre
  have hown : s.vm.findClass RX6 = some m.cls := findClass_of_methodNamed B.named
  have hlocks := B.notSynchronized
  subst hsz
  have hD := hD0.self (sz := s.heap.size)
  generalize hAe : va_A [(h0, .inr (6, [.int 0, .ref kd, .ref mo, .ref st, .int 0, .ref ro, .ref tp, .int 0, .ref cd, .ref sr, .int 1, .int 0, .int 0, .ref ir, .ref ih, .ref ss, .ref sq, .ref ce, .ref lw, .int 40, .int 40, .int 0, .int 0, .ref wo, .ref he, .int 0, .int 0, .int 5, .ref sk, .ref na, .ref kp, .int 0, .int 0, .int 0, .int 0, .ref gb, .ref go, .ref fa, .ref ga, .int 0, .int 0, .ref vo])), (ss, .inl (G.2.1, 4, .inl (upd (upd (upd (upd (fun _ => 0) 0 (-1)) 1 (-1)) 2 (-1)) 3 (-1))))] s.heap.size = A at hD ⊢
  have hA : ∀ q : Nat, s.heap.size ≤ q → A q := fun q h => by rw [← hAe]; exact Or.inr h
  have hS : va_S A s.heap s.heap [] := va_S.rf
  have hP : va_P G.1 vwCl [(h0, .inr (6, [.int 0, .ref kd, .ref mo, .ref st, .int 0, .ref ro, .ref tp, .int 0, .ref cd, .ref sr, .int 1, .int 0, .int 0, .ref ir, .ref ih, .ref ss, .ref sq, .ref ce, .ref lw, .int 40, .int 40, .int 0, .int 0, .ref wo, .ref he, .int 0, .int 0, .int 5, .ref sk, .ref na, .ref kp, .int 0, .int 0, .int 0, .int 0, .ref gb, .ref go, .ref fa, .ref ga, .int 0, .int 0, .ref vo])), (ss, .inl (G.2.1, 4, .inl (upd (upd (upd (upd (fun _ => 0) 0 (-1)) 1 (-1)) 2 (-1)) 3 (-1))))] s.heap := hP
  have hD : va_D A [(h0, .inr (6, [.int 0, .ref kd, .ref mo, .ref st, .int 0, .ref ro, .ref tp, .int 0, .ref cd, .ref sr, .int 1, .int 0, .int 0, .ref ir, .ref ih, .ref ss, .ref sq, .ref ce, .ref lw, .int 40, .int 40, .int 0, .int 0, .ref wo, .ref he, .int 0, .int 0, .int 5, .ref sk, .ref na, .ref kp, .int 0, .int 0, .int 0, .int 0, .ref gb, .ref go, .ref fa, .ref ga, .int 0, .int 0, .ref vo])), (ss, .inl (G.2.1, 4, .inl (upd (upd (upd (upd (fun _ => 0) 0 (-1)) 1 (-1)) 2 (-1)) 3 (-1))))] := hD
  have hl := lv_entry ([.ref h0, .int v0, .int v1, .int v2, .int v3]) (n := 10) (Nat.le_of_ble_eq_true rfl)
  rw [lg_entry_eq]
  generalize (lg_sl ([.ref h0, .int v0, .int v1, .int v2, .int v3]) ++ List.replicate (10 - (lg_sl ([.ref h0, .int v0, .int v1, .int v2, .int v3])).length) Slot.unset).toArray = ls at hl ⊢
  have hl : lv_has ls 10 [(0, .ref h0), (1, .int v0), (2, .int v1), (3, .int v2), (4, .int v3)] := hl
  refine lv_aload_n hx hb dX6_kinds_0 rfl (lv_at hl 0 rfl) ?_
  refine lv_iload_n hx hb dX6_kinds_1 rfl (lv_at hl 1 rfl) ?_
  refine lv_iload_n hx hb dX6_kinds_2 rfl (lv_at hl 2 rfl) ?_
  have hPc : va_P G.1 vwCl [(h0, .inr (6, [.int 0, .ref kd, .ref mo, .ref st, .int 0, .ref ro, .ref tp, .int 0, .ref cd, .ref sr, .int 1, .int 0, .int 0, .ref ir, .ref ih, .ref ss, .ref sq, .ref ce, .ref lw, .int 40, .int 40, .int 0, .int 0, .ref wo, .ref he, .int 0, .int 0, .int 5, .ref sk, .ref na, .ref kp, .int 0, .int 0, .int 0, .int 0, .ref gb, .ref go, .ref fa, .ref ga, .int 0, .int 0, .ref vo])), (ss, .inl (G.2.1, 4, .inl (upd (upd (upd (upd (fun _ => 0) 0 (-1)) 1 (-1)) 2 (-1)) 3 (-1))))] s.heap := hP.sub [0, 1] rfl
  have hDc : va_D A [(h0, .inr (6, [.int 0, .ref kd, .ref mo, .ref st, .int 0, .ref ro, .ref tp, .int 0, .ref cd, .ref sr, .int 1, .int 0, .int 0, .ref ir, .ref ih, .ref ss, .ref sq, .ref ce, .ref lw, .int 40, .int 40, .int 0, .int 0, .ref wo, .ref he, .int 0, .int 0, .int 5, .ref sk, .ref na, .ref kp, .int 0, .int 0, .int 0, .int 0, .ref gb, .ref go, .ref fa, .ref ga, .int 0, .int 0, .ref vo])), (ss, .inl (G.2.1, 4, .inl (upd (upd (upd (upd (fun _ => 0) 0 (-1)) 1 (-1)) 2 (-1)) 3 (-1))))] := hD.sub [0, 1] (by decide) rfl
  have hFc := va_free (wc := [(h0, .inr (6, [.int 0, .ref kd, .ref mo, .ref st, .int 0, .ref ro, .ref tp, .int 0, .ref cd, .ref sr, .int 1, .int 0, .int 0, .ref ir, .ref ih, .ref ss, .ref sq, .ref ce, .ref lw, .int 40, .int 40, .int 0, .int 0, .ref wo, .ref he, .int 0, .int 0, .int 5, .ref sk, .ref na, .ref kp, .int 0, .int 0, .int 0, .int 0, .ref gb, .ref go, .ref fa, .ref ga, .int 0, .int 0, .ref vo])), (ss, .inl (G.2.1, 4, .inl (upd (upd (upd (upd (fun _ => 0) 0 (-1)) 1 (-1)) 2 (-1)) 3 (-1))))]) hD hS hA [0, 1] rfl
  refine va_calli (va_runV (As := [.int v0, .int v1]) (rest := []) ⟨hx, hb, hml, hown, hts⟩ (c_X6_toldWrong_0 l G h0 kd mo st ro tp cd sr ir ih ss sq ce lw wo he sk na kp gb go fa ga vo v0 v1 s.heap.size) (cwV 2 hts gX6_kinds_X6_toldWrong rfl rfl rfl (by decide +kernel) ⟨Nat.le_of_ble_eq_true rfl, Nat.le_of_ble_eq_true rfl⟩) ⟨gPre_blind, va_recv hK hPc (ci := 6) (q0 := 0) rfl rfl, fun U hU hW => gPre_of hU hW hK hPc hDc⟩ rfl rfl hl.1 rfl (lv_room (Nat.le_of_ble_eq_true rfl)) dX6_kinds_3 ⟨Nat.le_of_ble_eq_true rfl, Nat.le_of_ble_eq_true rfl⟩) hS (fun q _ h => hFc q h) hFc (fun r_1 u t H locs ht hvm w_2 hB hz1 hk1 hS => ?_)
  obtain ⟨hP1, hK1, hD1⟩ := hB
  rw [ht] at hP1
  have hP1 : va_P G.1 vwCl [(h0, .inr (6, [.int 0, .ref kd, .ref mo, .ref st, .int 0, .ref ro, .ref tp, .int 0, .ref cd, .ref sr, .int 1, .int 0, .int 0, .ref ir, .ref ih, .ref ss, .ref sq, .ref ce, .ref lw, .int 40, .int 40, .int 0, .int 0, .ref wo, .ref he, .int 0, .int 0, .int 5, .ref sk, .ref na, .ref kp, .int 0, .int 0, .int 0, .int 0, .ref gb, .ref go, .ref fa, .ref ga, .int 0, .int 0, .ref vo])), (ss, .inl (G.2.1, 4, .inl (upd (upd (upd (upd (fun _ => 0) 0 (-1)) 1 (-1)) 2 (-1)) 3 (-1))))] H := hP1
  have hD1 : va_D (va_A [(h0, .inr (6, [.int 0, .ref kd, .ref mo, .ref st, .int 0, .ref ro, .ref tp, .int 0, .ref cd, .ref sr, .int 1, .int 0, .int 0, .ref ir, .ref ih, .ref ss, .ref sq, .ref ce, .ref lw, .int 40, .int 40, .int 0, .int 0, .ref wo, .ref he, .int 0, .int 0, .int 5, .ref sk, .ref na, .ref kp, .int 0, .int 0, .int 0, .int 0, .ref gb, .ref go, .ref fa, .ref ga, .int 0, .int 0, .ref vo])), (ss, .inl (G.2.1, 4, .inl (upd (upd (upd (upd (fun _ => 0) 0 (-1)) 1 (-1)) 2 (-1)) 3 (-1))))] s.heap.size) [(h0, .inr (6, [.int 0, .ref kd, .ref mo, .ref st, .int 0, .ref ro, .ref tp, .int 0, .ref cd, .ref sr, .int 1, .int 0, .int 0, .ref ir, .ref ih, .ref ss, .ref sq, .ref ce, .ref lw, .int 40, .int 40, .int 0, .int 0, .ref wo, .ref he, .int 0, .int 0, .int 5, .ref sk, .ref na, .ref kp, .int 0, .int 0, .int 0, .int 0, .ref gb, .ref go, .ref fa, .ref ga, .int 0, .int 0, .ref vo])), (ss, .inl (G.2.1, 4, .inl (upd (upd (upd (upd (fun _ => 0) 0 (-1)) 1 (-1)) 2 (-1)) 3 (-1))))] := hD1
  have w_2 : r_1 = (if 0 ≤ v0 ∧ v0 ≤ 3 then -11 else -2) := w_2
  obtain ⟨hP, hD⟩ := va_join (wr := []) (w1 := [(h0, .inr (6, [.int 0, .ref kd, .ref mo, .ref st, .int 0, .ref ro, .ref tp, .int 0, .ref cd, .ref sr, .int 1, .int 0, .int 0, .ref ir, .ref ih, .ref ss, .ref sq, .ref ce, .ref lw, .int 40, .int 40, .int 0, .int 0, .ref wo, .ref he, .int 0, .int 0, .int 5, .ref sk, .ref na, .ref kp, .int 0, .int 0, .int 0, .int 0, .ref gb, .ref go, .ref fa, .ref ga, .int 0, .int 0, .ref vo])), (ss, .inl (G.2.1, 4, .inl (upd (upd (upd (upd (fun _ => 0) 0 (-1)) 1 (-1)) 2 (-1)) 3 (-1))))]) hP hD [0, 1] [] rfl rfl (by decide) (by decide) hk1 hFc hP1 hD1
  have hP : va_P G.1 vwCl [(h0, .inr (6, [.int 0, .ref kd, .ref mo, .ref st, .int 0, .ref ro, .ref tp, .int 0, .ref cd, .ref sr, .int 1, .int 0, .int 0, .ref ir, .ref ih, .ref ss, .ref sq, .ref ce, .ref lw, .int 40, .int 40, .int 0, .int 0, .ref wo, .ref he, .int 0, .int 0, .int 5, .ref sk, .ref na, .ref kp, .int 0, .int 0, .int 0, .int 0, .ref gb, .ref go, .ref fa, .ref ga, .int 0, .int 0, .ref vo])), (ss, .inl (G.2.1, 4, .inl (upd (upd (upd (upd (fun _ => 0) 0 (-1)) 1 (-1)) 2 (-1)) 3 (-1))))] H := hP
  have hD : va_D A [(h0, .inr (6, [.int 0, .ref kd, .ref mo, .ref st, .int 0, .ref ro, .ref tp, .int 0, .ref cd, .ref sr, .int 1, .int 0, .int 0, .ref ir, .ref ih, .ref ss, .ref sq, .ref ce, .ref lw, .int 40, .int 40, .int 0, .int 0, .ref wo, .ref he, .int 0, .int 0, .int 5, .ref sk, .ref na, .ref kp, .int 0, .int 0, .int 0, .int 0, .ref gb, .ref go, .ref fa, .ref ga, .int 0, .int 0, .ref vo])), (ss, .inl (G.2.1, 4, .inl (upd (upd (upd (upd (fun _ => 0) 0 (-1)) 1 (-1)) 2 (-1)) 3 (-1))))] := hD
  have hne : ¬ r_1 = 0 := by rw [w_2]; exact g_ne _
  have hrv := w_2
  refine lv_istore (lv' := [(5, .int r_1), (0, .ref h0), (1, .int v0), (2, .int v1), (3, .int v2), (4, .int v3)]) hx hb dX6_kinds_6 hl (by decide) rfl (fun ls hl => ?_)
  refine lv_iload hx hb dX6_kinds_8 (lv_at hl 0 rfl) ?_
  refine lv_if_eq (tgt := 16) hx hb dX6_kinds_10 (by decide) (fun c_3 => ?_) (fun c_3 => ?_)
  · exact absurd c_3 (hne)
  refine lv_iload hx hb dX6_kinds_13 (lv_at hl 0 rfl) ?_
  have hpost : (fun (r : Int32) (u : Unit) => match u with | _ => r = (if 0 ≤ v0 ∧ v0 ≤ 3 then -11 else -2)) r_1 () := hrv
  exact W.iret (v := r_1) hx hb hr (fun t ht hW => ⟨⟨r_1, (), rfl, hpost, trivial⟩, hS.F ht⟩) hS.2.2 dX6_kinds_15
abbrev q_X6_soled_0 (G : gG) (h0 kd mo st ro tp cd sr ir ih ss sq ce lw wo he sk na kp gb go fa ga vo : Nat) (v0 : Int32) (v1 : Int32) (A : Nat → Prop) : Array Value → State → Outcome → State → Prop := va_Qi (fun (r : Int32) (u : Unit) => match u with | _ => r = (if 0 ≤ v0 ∧ v0 ≤ 3 then -11 else -2)) (fun (u : Unit) t => match u with | _ => True) A
set_option maxHeartbeats 4000000 in
set_option maxRecDepth 100000 in
theorem c_X6_soled_0 (l : Launch) (G : gG) (h0 kd mo st ro tp cd sr ir ih ss sq ce lw wo he sk na kp gb go fa ga vo : Nat) (v0 : Int32) (v1 : Int32) (sz : Nat) : Met l yX6_soled wsX6_soled ({ frames := 3, cells := 0, slots := 0, locals := 69 }) (gPre G [.ref h0, .int v0, .int v1] [(h0, .inr (6, [.int 0, .ref kd, .ref mo, .ref st, .int 0, .ref ro, .ref tp, .int 0, .ref cd, .ref sr, .int 1, .int 0, .int 0, .ref ir, .ref ih, .ref ss, .ref sq, .ref ce, .ref lw, .int 40, .int 40, .int 0, .int 0, .ref wo, .ref he, .int 0, .int 0, .int 5, .ref sk, .ref na, .ref kp, .int 0, .int 0, .int 0, .int 0, .ref gb, .ref go, .ref fa, .ref ga, .int 0, .int 0, .ref vo])), (ss, .inl (G.2.1, 4, .inl (upd (upd (upd (upd (fun _ => 0) 0 (-1)) 1 (-1)) 2 (-1)) 3 (-1))))] sz) (q_X6_soled_0 G h0 kd mo st ro tp cd sr ir ih ss sq ce lw wo he sk na kp gb go fa ga vo v0 v1 (va_A [(h0, .inr (6, [.int 0, .ref kd, .ref mo, .ref st, .int 0, .ref ro, .ref tp, .int 0, .ref cd, .ref sr, .int 1, .int 0, .int 0, .ref ir, .ref ih, .ref ss, .ref sq, .ref ce, .ref lw, .int 40, .int 40, .int 0, .int 0, .ref wo, .ref he, .int 0, .int 0, .int 5, .ref sk, .ref na, .ref kp, .int 0, .int 0, .int 0, .int 0, .ref gb, .ref go, .ref fa, .ref ga, .int 0, .int 0, .ref vo])), (ss, .inl (G.2.1, 4, .inl (upd (upd (upd (upd (fun _ => 0) 0 (-1)) 1 (-1)) 2 (-1)) 3 (-1))))] sz)) 0 0 (va_A [(h0, .inr (6, [.int 0, .ref kd, .ref mo, .ref st, .int 0, .ref ro, .ref tp, .int 0, .ref cd, .ref sr, .int 1, .int 0, .int 0, .ref ir, .ref ih, .ref ss, .ref sq, .ref ce, .ref lw, .int 40, .int 40, .int 0, .int 0, .ref wo, .ref he, .int 0, .int 0, .int 5, .ref sk, .ref na, .ref kp, .int 0, .int 0, .int 0, .int 0, .ref gb, .ref go, .ref fa, .ref ga, .int 0, .int 0, .ref vo])), (ss, .inl (G.2.1, 4, .inl (upd (upd (upd (upd (fun _ => 0) 0 (-1)) 1 (-1)) 2 (-1)) 3 (-1))))] sz) := by
  refine Met.ofW (cc := cX6_soled) (maxL := 7) (ret := (some .int)) (by decide) rfl ?_
  intro p e s m args below meth c s₁ B hml hv
  obtain ⟨rfl, hsz, hP, hK, hD0⟩ := hv
  have hx := B.exec
  have hb := B.bytes
  have hr := B.returns
  have hts := atoms_spec (ws := wsX6_soled) B.pre
  have hown : s.vm.findClass RX6 = some m.cls := findClass_of_methodNamed B.named
  have hlocks := B.notSynchronized
  subst hsz
  have hD := hD0.self (sz := s.heap.size)
  generalize hAe : va_A [(h0, .inr (6, [.int 0, .ref kd, .ref mo, .ref st, .int 0, .ref ro, .ref tp, .int 0, .ref cd, .ref sr, .int 1, .int 0, .int 0, .ref ir, .ref ih, .ref ss, .ref sq, .ref ce, .ref lw, .int 40, .int 40, .int 0, .int 0, .ref wo, .ref he, .int 0, .int 0, .int 5, .ref sk, .ref na, .ref kp, .int 0, .int 0, .int 0, .int 0, .ref gb, .ref go, .ref fa, .ref ga, .int 0, .int 0, .ref vo])), (ss, .inl (G.2.1, 4, .inl (upd (upd (upd (upd (fun _ => 0) 0 (-1)) 1 (-1)) 2 (-1)) 3 (-1))))] s.heap.size = A at hD ⊢
  have hA : ∀ q : Nat, s.heap.size ≤ q → A q := fun q h => by rw [← hAe]; exact Or.inr h
  have hS : va_S A s.heap s.heap [] := va_S.rf
  have hP : va_P G.1 vwCl [(h0, .inr (6, [.int 0, .ref kd, .ref mo, .ref st, .int 0, .ref ro, .ref tp, .int 0, .ref cd, .ref sr, .int 1, .int 0, .int 0, .ref ir, .ref ih, .ref ss, .ref sq, .ref ce, .ref lw, .int 40, .int 40, .int 0, .int 0, .ref wo, .ref he, .int 0, .int 0, .int 5, .ref sk, .ref na, .ref kp, .int 0, .int 0, .int 0, .int 0, .ref gb, .ref go, .ref fa, .ref ga, .int 0, .int 0, .ref vo])), (ss, .inl (G.2.1, 4, .inl (upd (upd (upd (upd (fun _ => 0) 0 (-1)) 1 (-1)) 2 (-1)) 3 (-1))))] s.heap := hP
  have hD : va_D A [(h0, .inr (6, [.int 0, .ref kd, .ref mo, .ref st, .int 0, .ref ro, .ref tp, .int 0, .ref cd, .ref sr, .int 1, .int 0, .int 0, .ref ir, .ref ih, .ref ss, .ref sq, .ref ce, .ref lw, .int 40, .int 40, .int 0, .int 0, .ref wo, .ref he, .int 0, .int 0, .int 5, .ref sk, .ref na, .ref kp, .int 0, .int 0, .int 0, .int 0, .ref gb, .ref go, .ref fa, .ref ga, .int 0, .int 0, .ref vo])), (ss, .inl (G.2.1, 4, .inl (upd (upd (upd (upd (fun _ => 0) 0 (-1)) 1 (-1)) 2 (-1)) 3 (-1))))] := hD
  have hl := lv_entry ([.ref h0, .int v0, .int v1]) (n := 7) (Nat.le_of_ble_eq_true rfl)
  rw [lg_entry_eq]
  generalize (lg_sl ([.ref h0, .int v0, .int v1]) ++ List.replicate (7 - (lg_sl ([.ref h0, .int v0, .int v1])).length) Slot.unset).toArray = ls at hl ⊢
  have hl : lv_has ls 7 [(0, .ref h0), (1, .int v0), (2, .int v1)] := hl
  refine lv_aload_n hx hb dX6_soled_0 rfl (lv_at hl 0 rfl) ?_
  refine lv_iload_n hx hb dX6_soled_1 rfl (lv_at hl 1 rfl) ?_
  refine lv_iload_n hx hb dX6_soled_2 rfl (lv_at hl 2 rfl) ?_
  have hPc : va_P G.1 vwCl [(h0, .inr (6, [.int 0, .ref kd, .ref mo, .ref st, .int 0, .ref ro, .ref tp, .int 0, .ref cd, .ref sr, .int 1, .int 0, .int 0, .ref ir, .ref ih, .ref ss, .ref sq, .ref ce, .ref lw, .int 40, .int 40, .int 0, .int 0, .ref wo, .ref he, .int 0, .int 0, .int 5, .ref sk, .ref na, .ref kp, .int 0, .int 0, .int 0, .int 0, .ref gb, .ref go, .ref fa, .ref ga, .int 0, .int 0, .ref vo])), (ss, .inl (G.2.1, 4, .inl (upd (upd (upd (upd (fun _ => 0) 0 (-1)) 1 (-1)) 2 (-1)) 3 (-1))))] s.heap := hP.sub [0, 1] rfl
  have hDc : va_D A [(h0, .inr (6, [.int 0, .ref kd, .ref mo, .ref st, .int 0, .ref ro, .ref tp, .int 0, .ref cd, .ref sr, .int 1, .int 0, .int 0, .ref ir, .ref ih, .ref ss, .ref sq, .ref ce, .ref lw, .int 40, .int 40, .int 0, .int 0, .ref wo, .ref he, .int 0, .int 0, .int 5, .ref sk, .ref na, .ref kp, .int 0, .int 0, .int 0, .int 0, .ref gb, .ref go, .ref fa, .ref ga, .int 0, .int 0, .ref vo])), (ss, .inl (G.2.1, 4, .inl (upd (upd (upd (upd (fun _ => 0) 0 (-1)) 1 (-1)) 2 (-1)) 3 (-1))))] := hD.sub [0, 1] (by decide) rfl
  have hFc := va_free (wc := [(h0, .inr (6, [.int 0, .ref kd, .ref mo, .ref st, .int 0, .ref ro, .ref tp, .int 0, .ref cd, .ref sr, .int 1, .int 0, .int 0, .ref ir, .ref ih, .ref ss, .ref sq, .ref ce, .ref lw, .int 40, .int 40, .int 0, .int 0, .ref wo, .ref he, .int 0, .int 0, .int 5, .ref sk, .ref na, .ref kp, .int 0, .int 0, .int 0, .int 0, .ref gb, .ref go, .ref fa, .ref ga, .int 0, .int 0, .ref vo])), (ss, .inl (G.2.1, 4, .inl (upd (upd (upd (upd (fun _ => 0) 0 (-1)) 1 (-1)) 2 (-1)) 3 (-1))))]) hD hS hA [0, 1] rfl
  refine va_calli (va_runV (As := [.int v0, .int v1]) (rest := []) ⟨hx, hb, hml, hown, hts⟩ (c_X6_toldWrong_0 l G h0 kd mo st ro tp cd sr ir ih ss sq ce lw wo he sk na kp gb go fa ga vo v0 v1 s.heap.size) (cwV 2 hts gX6_soled_X6_toldWrong rfl rfl rfl (by decide +kernel) ⟨Nat.le_of_ble_eq_true rfl, Nat.le_of_ble_eq_true rfl⟩) ⟨gPre_blind, va_recv hK hPc (ci := 6) (q0 := 0) rfl rfl, fun U hU hW => gPre_of hU hW hK hPc hDc⟩ rfl rfl hl.1 rfl (lv_room (Nat.le_of_ble_eq_true rfl)) dX6_soled_3 ⟨Nat.le_of_ble_eq_true rfl, Nat.le_of_ble_eq_true rfl⟩) hS (fun q _ h => hFc q h) hFc (fun r_1 u t H locs ht hvm w_2 hB hz1 hk1 hS => ?_)
  obtain ⟨hP1, hK1, hD1⟩ := hB
  rw [ht] at hP1
  have hP1 : va_P G.1 vwCl [(h0, .inr (6, [.int 0, .ref kd, .ref mo, .ref st, .int 0, .ref ro, .ref tp, .int 0, .ref cd, .ref sr, .int 1, .int 0, .int 0, .ref ir, .ref ih, .ref ss, .ref sq, .ref ce, .ref lw, .int 40, .int 40, .int 0, .int 0, .ref wo, .ref he, .int 0, .int 0, .int 5, .ref sk, .ref na, .ref kp, .int 0, .int 0, .int 0, .int 0, .ref gb, .ref go, .ref fa, .ref ga, .int 0, .int 0, .ref vo])), (ss, .inl (G.2.1, 4, .inl (upd (upd (upd (upd (fun _ => 0) 0 (-1)) 1 (-1)) 2 (-1)) 3 (-1))))] H := hP1
  have hD1 : va_D (va_A [(h0, .inr (6, [.int 0, .ref kd, .ref mo, .ref st, .int 0, .ref ro, .ref tp, .int 0, .ref cd, .ref sr, .int 1, .int 0, .int 0, .ref ir, .ref ih, .ref ss, .ref sq, .ref ce, .ref lw, .int 40, .int 40, .int 0, .int 0, .ref wo, .ref he, .int 0, .int 0, .int 5, .ref sk, .ref na, .ref kp, .int 0, .int 0, .int 0, .int 0, .ref gb, .ref go, .ref fa, .ref ga, .int 0, .int 0, .ref vo])), (ss, .inl (G.2.1, 4, .inl (upd (upd (upd (upd (fun _ => 0) 0 (-1)) 1 (-1)) 2 (-1)) 3 (-1))))] s.heap.size) [(h0, .inr (6, [.int 0, .ref kd, .ref mo, .ref st, .int 0, .ref ro, .ref tp, .int 0, .ref cd, .ref sr, .int 1, .int 0, .int 0, .ref ir, .ref ih, .ref ss, .ref sq, .ref ce, .ref lw, .int 40, .int 40, .int 0, .int 0, .ref wo, .ref he, .int 0, .int 0, .int 5, .ref sk, .ref na, .ref kp, .int 0, .int 0, .int 0, .int 0, .ref gb, .ref go, .ref fa, .ref ga, .int 0, .int 0, .ref vo])), (ss, .inl (G.2.1, 4, .inl (upd (upd (upd (upd (fun _ => 0) 0 (-1)) 1 (-1)) 2 (-1)) 3 (-1))))] := hD1
  have w_2 : r_1 = (if 0 ≤ v0 ∧ v0 ≤ 3 then -11 else -2) := w_2
  obtain ⟨hP, hD⟩ := va_join (wr := []) (w1 := [(h0, .inr (6, [.int 0, .ref kd, .ref mo, .ref st, .int 0, .ref ro, .ref tp, .int 0, .ref cd, .ref sr, .int 1, .int 0, .int 0, .ref ir, .ref ih, .ref ss, .ref sq, .ref ce, .ref lw, .int 40, .int 40, .int 0, .int 0, .ref wo, .ref he, .int 0, .int 0, .int 5, .ref sk, .ref na, .ref kp, .int 0, .int 0, .int 0, .int 0, .ref gb, .ref go, .ref fa, .ref ga, .int 0, .int 0, .ref vo])), (ss, .inl (G.2.1, 4, .inl (upd (upd (upd (upd (fun _ => 0) 0 (-1)) 1 (-1)) 2 (-1)) 3 (-1))))]) hP hD [0, 1] [] rfl rfl (by decide) (by decide) hk1 hFc hP1 hD1
  have hP : va_P G.1 vwCl [(h0, .inr (6, [.int 0, .ref kd, .ref mo, .ref st, .int 0, .ref ro, .ref tp, .int 0, .ref cd, .ref sr, .int 1, .int 0, .int 0, .ref ir, .ref ih, .ref ss, .ref sq, .ref ce, .ref lw, .int 40, .int 40, .int 0, .int 0, .ref wo, .ref he, .int 0, .int 0, .int 5, .ref sk, .ref na, .ref kp, .int 0, .int 0, .int 0, .int 0, .ref gb, .ref go, .ref fa, .ref ga, .int 0, .int 0, .ref vo])), (ss, .inl (G.2.1, 4, .inl (upd (upd (upd (upd (fun _ => 0) 0 (-1)) 1 (-1)) 2 (-1)) 3 (-1))))] H := hP
  have hD : va_D A [(h0, .inr (6, [.int 0, .ref kd, .ref mo, .ref st, .int 0, .ref ro, .ref tp, .int 0, .ref cd, .ref sr, .int 1, .int 0, .int 0, .ref ir, .ref ih, .ref ss, .ref sq, .ref ce, .ref lw, .int 40, .int 40, .int 0, .int 0, .ref wo, .ref he, .int 0, .int 0, .int 5, .ref sk, .ref na, .ref kp, .int 0, .int 0, .int 0, .int 0, .ref gb, .ref go, .ref fa, .ref ga, .int 0, .int 0, .ref vo])), (ss, .inl (G.2.1, 4, .inl (upd (upd (upd (upd (fun _ => 0) 0 (-1)) 1 (-1)) 2 (-1)) 3 (-1))))] := hD
  have hne : ¬ r_1 = 0 := by rw [w_2]; exact g_ne _
  have hrv := w_2
  refine lv_istore_n (lv' := [(3, .int r_1), (0, .ref h0), (1, .int v0), (2, .int v1)]) hx hb dX6_soled_6 rfl hl (by decide) rfl (fun ls hl => ?_)
  refine lv_iload_n hx hb dX6_soled_7 rfl (lv_at hl 0 rfl) ?_
  refine lv_if_eq (tgt := 13) hx hb dX6_soled_8 (by decide) (fun c_3 => ?_) (fun c_3 => ?_)
  · exact absurd c_3 (hne)
  refine lv_iload_n hx hb dX6_soled_11 rfl (lv_at hl 0 rfl) ?_
  have hpost : (fun (r : Int32) (u : Unit) => match u with | _ => r = (if 0 ≤ v0 ∧ v0 ≤ 3 then -11 else -2)) r_1 () := hrv
  exact W.iret (v := r_1) hx hb hr (fun t ht hW => ⟨⟨r_1, (), rfl, hpost, trivial⟩, hS.F ht⟩) hS.2.2 dX6_soled_12
abbrev q_X6_sizes_0 (G : gG) (h0 kd mo st ro tp cd sr ir ih ss sq ce lw wo he sk na kp gb go fa ga vo : Nat) (v0 : Int32) (v1 : Int32) (v2 : Int32) (v3 : Int32) (A : Nat → Prop) : Array Value → State → Outcome → State → Prop := va_Qi (fun (r : Int32) (u : Unit) => match u with | _ => r = (if 0 ≤ v0 ∧ v0 ≤ 3 then -11 else -2)) (fun (u : Unit) t => match u with | _ => True) A
set_option maxHeartbeats 4000000 in
set_option maxRecDepth 100000 in
theorem c_X6_sizes_0 (l : Launch) (G : gG) (h0 kd mo st ro tp cd sr ir ih ss sq ce lw wo he sk na kp gb go fa ga vo : Nat) (v0 : Int32) (v1 : Int32) (v2 : Int32) (v3 : Int32) (sz : Nat) : Met l yX6_sizes wsX6_sizes ({ frames := 3, cells := 0, slots := 0, locals := 69 }) (gPre G [.ref h0, .int v0, .int v1, .int v2, .int v3] [(h0, .inr (6, [.int 0, .ref kd, .ref mo, .ref st, .int 0, .ref ro, .ref tp, .int 0, .ref cd, .ref sr, .int 1, .int 0, .int 0, .ref ir, .ref ih, .ref ss, .ref sq, .ref ce, .ref lw, .int 40, .int 40, .int 0, .int 0, .ref wo, .ref he, .int 0, .int 0, .int 5, .ref sk, .ref na, .ref kp, .int 0, .int 0, .int 0, .int 0, .ref gb, .ref go, .ref fa, .ref ga, .int 0, .int 0, .ref vo])), (ss, .inl (G.2.1, 4, .inl (upd (upd (upd (upd (fun _ => 0) 0 (-1)) 1 (-1)) 2 (-1)) 3 (-1))))] sz) (q_X6_sizes_0 G h0 kd mo st ro tp cd sr ir ih ss sq ce lw wo he sk na kp gb go fa ga vo v0 v1 v2 v3 (va_A [(h0, .inr (6, [.int 0, .ref kd, .ref mo, .ref st, .int 0, .ref ro, .ref tp, .int 0, .ref cd, .ref sr, .int 1, .int 0, .int 0, .ref ir, .ref ih, .ref ss, .ref sq, .ref ce, .ref lw, .int 40, .int 40, .int 0, .int 0, .ref wo, .ref he, .int 0, .int 0, .int 5, .ref sk, .ref na, .ref kp, .int 0, .int 0, .int 0, .int 0, .ref gb, .ref go, .ref fa, .ref ga, .int 0, .int 0, .ref vo])), (ss, .inl (G.2.1, 4, .inl (upd (upd (upd (upd (fun _ => 0) 0 (-1)) 1 (-1)) 2 (-1)) 3 (-1))))] sz)) 0 0 (va_A [(h0, .inr (6, [.int 0, .ref kd, .ref mo, .ref st, .int 0, .ref ro, .ref tp, .int 0, .ref cd, .ref sr, .int 1, .int 0, .int 0, .ref ir, .ref ih, .ref ss, .ref sq, .ref ce, .ref lw, .int 40, .int 40, .int 0, .int 0, .ref wo, .ref he, .int 0, .int 0, .int 5, .ref sk, .ref na, .ref kp, .int 0, .int 0, .int 0, .int 0, .ref gb, .ref go, .ref fa, .ref ga, .int 0, .int 0, .ref vo])), (ss, .inl (G.2.1, 4, .inl (upd (upd (upd (upd (fun _ => 0) 0 (-1)) 1 (-1)) 2 (-1)) 3 (-1))))] sz) := by
  refine Met.ofW (cc := cX6_sizes) (maxL := 12) (ret := (some .int)) (by decide) rfl ?_
  intro p e s m args below meth c s₁ B hml hv
  obtain ⟨rfl, hsz, hP, hK, hD0⟩ := hv
  have hx := B.exec
  have hb := B.bytes
  have hr := B.returns
  have hts := atoms_spec (ws := wsX6_sizes) B.pre
  have hown : s.vm.findClass RX6 = some m.cls := findClass_of_methodNamed B.named
  have hlocks := B.notSynchronized
  subst hsz
  have hD := hD0.self (sz := s.heap.size)
  generalize hAe : va_A [(h0, .inr (6, [.int 0, .ref kd, .ref mo, .ref st, .int 0, .ref ro, .ref tp, .int 0, .ref cd, .ref sr, .int 1, .int 0, .int 0, .ref ir, .ref ih, .ref ss, .ref sq, .ref ce, .ref lw, .int 40, .int 40, .int 0, .int 0, .ref wo, .ref he, .int 0, .int 0, .int 5, .ref sk, .ref na, .ref kp, .int 0, .int 0, .int 0, .int 0, .ref gb, .ref go, .ref fa, .ref ga, .int 0, .int 0, .ref vo])), (ss, .inl (G.2.1, 4, .inl (upd (upd (upd (upd (fun _ => 0) 0 (-1)) 1 (-1)) 2 (-1)) 3 (-1))))] s.heap.size = A at hD ⊢
  have hA : ∀ q : Nat, s.heap.size ≤ q → A q := fun q h => by rw [← hAe]; exact Or.inr h
  have hS : va_S A s.heap s.heap [] := va_S.rf
  have hP : va_P G.1 vwCl [(h0, .inr (6, [.int 0, .ref kd, .ref mo, .ref st, .int 0, .ref ro, .ref tp, .int 0, .ref cd, .ref sr, .int 1, .int 0, .int 0, .ref ir, .ref ih, .ref ss, .ref sq, .ref ce, .ref lw, .int 40, .int 40, .int 0, .int 0, .ref wo, .ref he, .int 0, .int 0, .int 5, .ref sk, .ref na, .ref kp, .int 0, .int 0, .int 0, .int 0, .ref gb, .ref go, .ref fa, .ref ga, .int 0, .int 0, .ref vo])), (ss, .inl (G.2.1, 4, .inl (upd (upd (upd (upd (fun _ => 0) 0 (-1)) 1 (-1)) 2 (-1)) 3 (-1))))] s.heap := hP
  have hD : va_D A [(h0, .inr (6, [.int 0, .ref kd, .ref mo, .ref st, .int 0, .ref ro, .ref tp, .int 0, .ref cd, .ref sr, .int 1, .int 0, .int 0, .ref ir, .ref ih, .ref ss, .ref sq, .ref ce, .ref lw, .int 40, .int 40, .int 0, .int 0, .ref wo, .ref he, .int 0, .int 0, .int 5, .ref sk, .ref na, .ref kp, .int 0, .int 0, .int 0, .int 0, .ref gb, .ref go, .ref fa, .ref ga, .int 0, .int 0, .ref vo])), (ss, .inl (G.2.1, 4, .inl (upd (upd (upd (upd (fun _ => 0) 0 (-1)) 1 (-1)) 2 (-1)) 3 (-1))))] := hD
  have hl := lv_entry ([.ref h0, .int v0, .int v1, .int v2, .int v3]) (n := 12) (Nat.le_of_ble_eq_true rfl)
  rw [lg_entry_eq]
  generalize (lg_sl ([.ref h0, .int v0, .int v1, .int v2, .int v3]) ++ List.replicate (12 - (lg_sl ([.ref h0, .int v0, .int v1, .int v2, .int v3])).length) Slot.unset).toArray = ls at hl ⊢
  have hl : lv_has ls 12 [(0, .ref h0), (1, .int v0), (2, .int v1), (3, .int v2), (4, .int v3)] := hl
  refine lv_aload_n hx hb dX6_sizes_0 rfl (lv_at hl 0 rfl) ?_
  refine lv_iload_n hx hb dX6_sizes_1 rfl (lv_at hl 1 rfl) ?_
  refine lv_iload_n hx hb dX6_sizes_2 rfl (lv_at hl 2 rfl) ?_
  have hPc : va_P G.1 vwCl [(h0, .inr (6, [.int 0, .ref kd, .ref mo, .ref st, .int 0, .ref ro, .ref tp, .int 0, .ref cd, .ref sr, .int 1, .int 0, .int 0, .ref ir, .ref ih, .ref ss, .ref sq, .ref ce, .ref lw, .int 40, .int 40, .int 0, .int 0, .ref wo, .ref he, .int 0, .int 0, .int 5, .ref sk, .ref na, .ref kp, .int 0, .int 0, .int 0, .int 0, .ref gb, .ref go, .ref fa, .ref ga, .int 0, .int 0, .ref vo])), (ss, .inl (G.2.1, 4, .inl (upd (upd (upd (upd (fun _ => 0) 0 (-1)) 1 (-1)) 2 (-1)) 3 (-1))))] s.heap := hP.sub [0, 1] rfl
  have hDc : va_D A [(h0, .inr (6, [.int 0, .ref kd, .ref mo, .ref st, .int 0, .ref ro, .ref tp, .int 0, .ref cd, .ref sr, .int 1, .int 0, .int 0, .ref ir, .ref ih, .ref ss, .ref sq, .ref ce, .ref lw, .int 40, .int 40, .int 0, .int 0, .ref wo, .ref he, .int 0, .int 0, .int 5, .ref sk, .ref na, .ref kp, .int 0, .int 0, .int 0, .int 0, .ref gb, .ref go, .ref fa, .ref ga, .int 0, .int 0, .ref vo])), (ss, .inl (G.2.1, 4, .inl (upd (upd (upd (upd (fun _ => 0) 0 (-1)) 1 (-1)) 2 (-1)) 3 (-1))))] := hD.sub [0, 1] (by decide) rfl
  have hFc := va_free (wc := [(h0, .inr (6, [.int 0, .ref kd, .ref mo, .ref st, .int 0, .ref ro, .ref tp, .int 0, .ref cd, .ref sr, .int 1, .int 0, .int 0, .ref ir, .ref ih, .ref ss, .ref sq, .ref ce, .ref lw, .int 40, .int 40, .int 0, .int 0, .ref wo, .ref he, .int 0, .int 0, .int 5, .ref sk, .ref na, .ref kp, .int 0, .int 0, .int 0, .int 0, .ref gb, .ref go, .ref fa, .ref ga, .int 0, .int 0, .ref vo])), (ss, .inl (G.2.1, 4, .inl (upd (upd (upd (upd (fun _ => 0) 0 (-1)) 1 (-1)) 2 (-1)) 3 (-1))))]) hD hS hA [0, 1] rfl
  refine va_calli (va_runV (As := [.int v0, .int v1]) (rest := []) ⟨hx, hb, hml, hown, hts⟩ (c_X6_toldWrong_0 l G h0 kd mo st ro tp cd sr ir ih ss sq ce lw wo he sk na kp gb go fa ga vo v0 v1 s.heap.size) (cwV 2 hts gX6_sizes_X6_toldWrong rfl rfl rfl (by decide +kernel) ⟨Nat.le_of_ble_eq_true rfl, Nat.le_of_ble_eq_true rfl⟩) ⟨gPre_blind, va_recv hK hPc (ci := 6) (q0 := 0) rfl rfl, fun U hU hW => gPre_of hU hW hK hPc hDc⟩ rfl rfl hl.1 rfl (lv_room (Nat.le_of_ble_eq_true rfl)) dX6_sizes_3 ⟨Nat.le_of_ble_eq_true rfl, Nat.le_of_ble_eq_true rfl⟩) hS (fun q _ h => hFc q h) hFc (fun r_1 u t H locs ht hvm w_2 hB hz1 hk1 hS => ?_)
  obtain ⟨hP1, hK1, hD1⟩ := hB
  rw [ht] at hP1
  have hP1 : va_P G.1 vwCl [(h0, .inr (6, [.int 0, .ref kd, .ref mo, .ref st, .int 0, .ref ro, .ref tp, .int 0, .ref cd, .ref sr, .int 1, .int 0, .int 0, .ref ir, .ref ih, .ref ss, .ref sq, .ref ce, .ref lw, .int 40, .int 40, .int 0, .int 0, .ref wo, .ref he, .int 0, .int 0, .int 5, .ref sk, .ref na, .ref kp, .int 0, .int 0, .int 0, .int 0, .ref gb, .ref go, .ref fa, .ref ga, .int 0, .int 0, .ref vo])), (ss, .inl (G.2.1, 4, .inl (upd (upd (upd (upd (fun _ => 0) 0 (-1)) 1 (-1)) 2 (-1)) 3 (-1))))] H := hP1
  have hD1 : va_D (va_A [(h0, .inr (6, [.int 0, .ref kd, .ref mo, .ref st, .int 0, .ref ro, .ref tp, .int 0, .ref cd, .ref sr, .int 1, .int 0, .int 0, .ref ir, .ref ih, .ref ss, .ref sq, .ref ce, .ref lw, .int 40, .int 40, .int 0, .int 0, .ref wo, .ref he, .int 0, .int 0, .int 5, .ref sk, .ref na, .ref kp, .int 0, .int 0, .int 0, .int 0, .ref gb, .ref go, .ref fa, .ref ga, .int 0, .int 0, .ref vo])), (ss, .inl (G.2.1, 4, .inl (upd (upd (upd (upd (fun _ => 0) 0 (-1)) 1 (-1)) 2 (-1)) 3 (-1))))] s.heap.size) [(h0, .inr (6, [.int 0, .ref kd, .ref mo, .ref st, .int 0, .ref ro, .ref tp, .int 0, .ref cd, .ref sr, .int 1, .int 0, .int 0, .ref ir, .ref ih, .ref ss, .ref sq, .ref ce, .ref lw, .int 40, .int 40, .int 0, .int 0, .ref wo, .ref he, .int 0, .int 0, .int 5, .ref sk, .ref na, .ref kp, .int 0, .int 0, .int 0, .int 0, .ref gb, .ref go, .ref fa, .ref ga, .int 0, .int 0, .ref vo])), (ss, .inl (G.2.1, 4, .inl (upd (upd (upd (upd (fun _ => 0) 0 (-1)) 1 (-1)) 2 (-1)) 3 (-1))))] := hD1
  have w_2 : r_1 = (if 0 ≤ v0 ∧ v0 ≤ 3 then -11 else -2) := w_2
  obtain ⟨hP, hD⟩ := va_join (wr := []) (w1 := [(h0, .inr (6, [.int 0, .ref kd, .ref mo, .ref st, .int 0, .ref ro, .ref tp, .int 0, .ref cd, .ref sr, .int 1, .int 0, .int 0, .ref ir, .ref ih, .ref ss, .ref sq, .ref ce, .ref lw, .int 40, .int 40, .int 0, .int 0, .ref wo, .ref he, .int 0, .int 0, .int 5, .ref sk, .ref na, .ref kp, .int 0, .int 0, .int 0, .int 0, .ref gb, .ref go, .ref fa, .ref ga, .int 0, .int 0, .ref vo])), (ss, .inl (G.2.1, 4, .inl (upd (upd (upd (upd (fun _ => 0) 0 (-1)) 1 (-1)) 2 (-1)) 3 (-1))))]) hP hD [0, 1] [] rfl rfl (by decide) (by decide) hk1 hFc hP1 hD1
  have hP : va_P G.1 vwCl [(h0, .inr (6, [.int 0, .ref kd, .ref mo, .ref st, .int 0, .ref ro, .ref tp, .int 0, .ref cd, .ref sr, .int 1, .int 0, .int 0, .ref ir, .ref ih, .ref ss, .ref sq, .ref ce, .ref lw, .int 40, .int 40, .int 0, .int 0, .ref wo, .ref he, .int 0, .int 0, .int 5, .ref sk, .ref na, .ref kp, .int 0, .int 0, .int 0, .int 0, .ref gb, .ref go, .ref fa, .ref ga, .int 0, .int 0, .ref vo])), (ss, .inl (G.2.1, 4, .inl (upd (upd (upd (upd (fun _ => 0) 0 (-1)) 1 (-1)) 2 (-1)) 3 (-1))))] H := hP
  have hD : va_D A [(h0, .inr (6, [.int 0, .ref kd, .ref mo, .ref st, .int 0, .ref ro, .ref tp, .int 0, .ref cd, .ref sr, .int 1, .int 0, .int 0, .ref ir, .ref ih, .ref ss, .ref sq, .ref ce, .ref lw, .int 40, .int 40, .int 0, .int 0, .ref wo, .ref he, .int 0, .int 0, .int 5, .ref sk, .ref na, .ref kp, .int 0, .int 0, .int 0, .int 0, .ref gb, .ref go, .ref fa, .ref ga, .int 0, .int 0, .ref vo])), (ss, .inl (G.2.1, 4, .inl (upd (upd (upd (upd (fun _ => 0) 0 (-1)) 1 (-1)) 2 (-1)) 3 (-1))))] := hD
  have hne : ¬ r_1 = 0 := by rw [w_2]; exact g_ne _
  have hrv := w_2
  refine lv_istore (lv' := [(5, .int r_1), (0, .ref h0), (1, .int v0), (2, .int v1), (3, .int v2), (4, .int v3)]) hx hb dX6_sizes_6 hl (by decide) rfl (fun ls hl => ?_)
  refine lv_iload hx hb dX6_sizes_8 (lv_at hl 0 rfl) ?_
  refine lv_if_eq (tgt := 16) hx hb dX6_sizes_10 (by decide) (fun c_3 => ?_) (fun c_3 => ?_)
  · exact absurd c_3 (hne)
  refine lv_iload hx hb dX6_sizes_13 (lv_at hl 0 rfl) ?_
  have hpost : (fun (r : Int32) (u : Unit) => match u with | _ => r = (if 0 ≤ v0 ∧ v0 ≤ 3 then -11 else -2)) r_1 () := hrv
  exact W.iret (v := r_1) hx hb hr (fun t ht hW => ⟨⟨r_1, (), rfl, hpost, trivial⟩, hS.F ht⟩) hS.2.2 dX6_sizes_15
abbrev q_X6_whose_0 (G : gG) (h0 kd mo st ro tp cd sr ir ih ss sq ce lw wo he sk na kp gb go fa ga vo : Nat) (v0 : Int32) (A : Nat → Prop) : Array Value → State → Outcome → State → Prop := va_Qi (fun (r : Int32) (u : Unit) => match u with | _ => r = (if 0 ≤ v0 ∧ v0 ≤ 3 then -11 else -2)) (fun (u : Unit) t => match u with | _ => True) A
set_option maxHeartbeats 4000000 in
set_option maxRecDepth 100000 in
theorem c_X6_whose_0 (l : Launch) (G : gG) (h0 kd mo st ro tp cd sr ir ih ss sq ce lw wo he sk na kp gb go fa ga vo : Nat) (v0 : Int32) (sz : Nat) : Met l yX6_whose wsX6_whose ({ frames := 2, cells := 0, slots := 0, locals := 46 }) (gPre G [.ref h0, .int v0] [(h0, .inr (6, [.int 0, .ref kd, .ref mo, .ref st, .int 0, .ref ro, .ref tp, .int 0, .ref cd, .ref sr, .int 1, .int 0, .int 0, .ref ir, .ref ih, .ref ss, .ref sq, .ref ce, .ref lw, .int 40, .int 40, .int 0, .int 0, .ref wo, .ref he, .int 0, .int 0, .int 5, .ref sk, .ref na, .ref kp, .int 0, .int 0, .int 0, .int 0, .ref gb, .ref go, .ref fa, .ref ga, .int 0, .int 0, .ref vo])), (ss, .inl (G.2.1, 4, .inl (upd (upd (upd (upd (fun _ => 0) 0 (-1)) 1 (-1)) 2 (-1)) 3 (-1))))] sz) (q_X6_whose_0 G h0 kd mo st ro tp cd sr ir ih ss sq ce lw wo he sk na kp gb go fa ga vo v0 (va_A [(h0, .inr (6, [.int 0, .ref kd, .ref mo, .ref st, .int 0, .ref ro, .ref tp, .int 0, .ref cd, .ref sr, .int 1, .int 0, .int 0, .ref ir, .ref ih, .ref ss, .ref sq, .ref ce, .ref lw, .int 40, .int 40, .int 0, .int 0, .ref wo, .ref he, .int 0, .int 0, .int 5, .ref sk, .ref na, .ref kp, .int 0, .int 0, .int 0, .int 0, .ref gb, .ref go, .ref fa, .ref ga, .int 0, .int 0, .ref vo])), (ss, .inl (G.2.1, 4, .inl (upd (upd (upd (upd (fun _ => 0) 0 (-1)) 1 (-1)) 2 (-1)) 3 (-1))))] sz)) 0 0 (va_A [(h0, .inr (6, [.int 0, .ref kd, .ref mo, .ref st, .int 0, .ref ro, .ref tp, .int 0, .ref cd, .ref sr, .int 1, .int 0, .int 0, .ref ir, .ref ih, .ref ss, .ref sq, .ref ce, .ref lw, .int 40, .int 40, .int 0, .int 0, .ref wo, .ref he, .int 0, .int 0, .int 5, .ref sk, .ref na, .ref kp, .int 0, .int 0, .int 0, .int 0, .ref gb, .ref go, .ref fa, .ref ga, .int 0, .int 0, .ref vo])), (ss, .inl (G.2.1, 4, .inl (upd (upd (upd (upd (fun _ => 0) 0 (-1)) 1 (-1)) 2 (-1)) 3 (-1))))] sz) := by
  refine Met.ofW (cc := cX6_whose) (maxL := 5) (ret := (some .int)) (by decide) rfl ?_
  intro p e s m args below meth c s₁ B hml hv
  obtain ⟨rfl, hsz, hP, hK, hD0⟩ := hv
  have hx := B.exec
  have hb := B.bytes
  have hr := B.returns
  have hts := atoms_spec (ws := wsX6_whose) B.pre
  have hown : s.vm.findClass RX6 = some m.cls := findClass_of_methodNamed B.named
  have hlocks := B.notSynchronized
  subst hsz
  have hD := hD0.self (sz := s.heap.size)
  generalize hAe : va_A [(h0, .inr (6, [.int 0, .ref kd, .ref mo, .ref st, .int 0, .ref ro, .ref tp, .int 0, .ref cd, .ref sr, .int 1, .int 0, .int 0, .ref ir, .ref ih, .ref ss, .ref sq, .ref ce, .ref lw, .int 40, .int 40, .int 0, .int 0, .ref wo, .ref he, .int 0, .int 0, .int 5, .ref sk, .ref na, .ref kp, .int 0, .int 0, .int 0, .int 0, .ref gb, .ref go, .ref fa, .ref ga, .int 0, .int 0, .ref vo])), (ss, .inl (G.2.1, 4, .inl (upd (upd (upd (upd (fun _ => 0) 0 (-1)) 1 (-1)) 2 (-1)) 3 (-1))))] s.heap.size = A at hD ⊢
  have hA : ∀ q : Nat, s.heap.size ≤ q → A q := fun q h => by rw [← hAe]; exact Or.inr h
  have hS : va_S A s.heap s.heap [] := va_S.rf
  have hP : va_P G.1 vwCl [(h0, .inr (6, [.int 0, .ref kd, .ref mo, .ref st, .int 0, .ref ro, .ref tp, .int 0, .ref cd, .ref sr, .int 1, .int 0, .int 0, .ref ir, .ref ih, .ref ss, .ref sq, .ref ce, .ref lw, .int 40, .int 40, .int 0, .int 0, .ref wo, .ref he, .int 0, .int 0, .int 5, .ref sk, .ref na, .ref kp, .int 0, .int 0, .int 0, .int 0, .ref gb, .ref go, .ref fa, .ref ga, .int 0, .int 0, .ref vo])), (ss, .inl (G.2.1, 4, .inl (upd (upd (upd (upd (fun _ => 0) 0 (-1)) 1 (-1)) 2 (-1)) 3 (-1))))] s.heap := hP
  have hD : va_D A [(h0, .inr (6, [.int 0, .ref kd, .ref mo, .ref st, .int 0, .ref ro, .ref tp, .int 0, .ref cd, .ref sr, .int 1, .int 0, .int 0, .ref ir, .ref ih, .ref ss, .ref sq, .ref ce, .ref lw, .int 40, .int 40, .int 0, .int 0, .ref wo, .ref he, .int 0, .int 0, .int 5, .ref sk, .ref na, .ref kp, .int 0, .int 0, .int 0, .int 0, .ref gb, .ref go, .ref fa, .ref ga, .int 0, .int 0, .ref vo])), (ss, .inl (G.2.1, 4, .inl (upd (upd (upd (upd (fun _ => 0) 0 (-1)) 1 (-1)) 2 (-1)) 3 (-1))))] := hD
  have hl := lv_entry ([.ref h0, .int v0]) (n := 5) (Nat.le_of_ble_eq_true rfl)
  rw [lg_entry_eq]
  generalize (lg_sl ([.ref h0, .int v0]) ++ List.replicate (5 - (lg_sl ([.ref h0, .int v0])).length) Slot.unset).toArray = ls at hl ⊢
  have hl : lv_has ls 5 [(0, .ref h0), (1, .int v0)] := hl
  refine lv_aload_n hx hb dX6_whose_0 rfl (lv_at hl 0 rfl) ?_
  refine lv_iload_n hx hb dX6_whose_1 rfl (lv_at hl 1 rfl) ?_
  have hPc : va_P G.1 vwCl [(h0, .inr (6, [.int 0, .ref kd, .ref mo, .ref st, .int 0, .ref ro, .ref tp, .int 0, .ref cd, .ref sr, .int 1, .int 0, .int 0, .ref ir, .ref ih, .ref ss, .ref sq, .ref ce, .ref lw, .int 40, .int 40, .int 0, .int 0, .ref wo, .ref he, .int 0, .int 0, .int 5, .ref sk, .ref na, .ref kp, .int 0, .int 0, .int 0, .int 0, .ref gb, .ref go, .ref fa, .ref ga, .int 0, .int 0, .ref vo])), (ss, .inl (G.2.1, 4, .inl (upd (upd (upd (upd (fun _ => 0) 0 (-1)) 1 (-1)) 2 (-1)) 3 (-1))))] s.heap := hP.sub [0, 1] rfl
  have hDc : va_D A [(h0, .inr (6, [.int 0, .ref kd, .ref mo, .ref st, .int 0, .ref ro, .ref tp, .int 0, .ref cd, .ref sr, .int 1, .int 0, .int 0, .ref ir, .ref ih, .ref ss, .ref sq, .ref ce, .ref lw, .int 40, .int 40, .int 0, .int 0, .ref wo, .ref he, .int 0, .int 0, .int 5, .ref sk, .ref na, .ref kp, .int 0, .int 0, .int 0, .int 0, .ref gb, .ref go, .ref fa, .ref ga, .int 0, .int 0, .ref vo])), (ss, .inl (G.2.1, 4, .inl (upd (upd (upd (upd (fun _ => 0) 0 (-1)) 1 (-1)) 2 (-1)) 3 (-1))))] := hD.sub [0, 1] (by decide) rfl
  have hFc := va_free (wc := [(h0, .inr (6, [.int 0, .ref kd, .ref mo, .ref st, .int 0, .ref ro, .ref tp, .int 0, .ref cd, .ref sr, .int 1, .int 0, .int 0, .ref ir, .ref ih, .ref ss, .ref sq, .ref ce, .ref lw, .int 40, .int 40, .int 0, .int 0, .ref wo, .ref he, .int 0, .int 0, .int 5, .ref sk, .ref na, .ref kp, .int 0, .int 0, .int 0, .int 0, .ref gb, .ref go, .ref fa, .ref ga, .int 0, .int 0, .ref vo])), (ss, .inl (G.2.1, 4, .inl (upd (upd (upd (upd (fun _ => 0) 0 (-1)) 1 (-1)) 2 (-1)) 3 (-1))))]) hD hS hA [0, 1] rfl
  refine va_calli (va_runV (As := [.int v0]) (rest := []) ⟨hx, hb, hml, hown, hts⟩ (c_X6_sheetWrong_0 l G h0 kd mo st ro tp cd sr ir ih ss sq ce lw wo he sk na kp gb go fa ga vo v0 s.heap.size) (cwV 1 hts gX6_whose_X6_sheetWrong rfl rfl rfl (by decide +kernel) ⟨Nat.le_of_ble_eq_true rfl, Nat.le_of_ble_eq_true rfl⟩) ⟨gPre_blind, va_recv hK hPc (ci := 6) (q0 := 0) rfl rfl, fun U hU hW => gPre_of hU hW hK hPc hDc⟩ rfl rfl hl.1 rfl (lv_room (Nat.le_of_ble_eq_true rfl)) dX6_whose_2 ⟨Nat.le_of_ble_eq_true rfl, Nat.le_of_ble_eq_true rfl⟩) hS (fun q _ h => hFc q h) hFc (fun r_1 u t H locs ht hvm w_2 hB hz1 hk1 hS => ?_)
  obtain ⟨hP1, hK1, hD1⟩ := hB
  rw [ht] at hP1
  have hP1 : va_P G.1 vwCl [(h0, .inr (6, [.int 0, .ref kd, .ref mo, .ref st, .int 0, .ref ro, .ref tp, .int 0, .ref cd, .ref sr, .int 1, .int 0, .int 0, .ref ir, .ref ih, .ref ss, .ref sq, .ref ce, .ref lw, .int 40, .int 40, .int 0, .int 0, .ref wo, .ref he, .int 0, .int 0, .int 5, .ref sk, .ref na, .ref kp, .int 0, .int 0, .int 0, .int 0, .ref gb, .ref go, .ref fa, .ref ga, .int 0, .int 0, .ref vo])), (ss, .inl (G.2.1, 4, .inl (upd (upd (upd (upd (fun _ => 0) 0 (-1)) 1 (-1)) 2 (-1)) 3 (-1))))] H := hP1
  have hD1 : va_D (va_A [(h0, .inr (6, [.int 0, .ref kd, .ref mo, .ref st, .int 0, .ref ro, .ref tp, .int 0, .ref cd, .ref sr, .int 1, .int 0, .int 0, .ref ir, .ref ih, .ref ss, .ref sq, .ref ce, .ref lw, .int 40, .int 40, .int 0, .int 0, .ref wo, .ref he, .int 0, .int 0, .int 5, .ref sk, .ref na, .ref kp, .int 0, .int 0, .int 0, .int 0, .ref gb, .ref go, .ref fa, .ref ga, .int 0, .int 0, .ref vo])), (ss, .inl (G.2.1, 4, .inl (upd (upd (upd (upd (fun _ => 0) 0 (-1)) 1 (-1)) 2 (-1)) 3 (-1))))] s.heap.size) [(h0, .inr (6, [.int 0, .ref kd, .ref mo, .ref st, .int 0, .ref ro, .ref tp, .int 0, .ref cd, .ref sr, .int 1, .int 0, .int 0, .ref ir, .ref ih, .ref ss, .ref sq, .ref ce, .ref lw, .int 40, .int 40, .int 0, .int 0, .ref wo, .ref he, .int 0, .int 0, .int 5, .ref sk, .ref na, .ref kp, .int 0, .int 0, .int 0, .int 0, .ref gb, .ref go, .ref fa, .ref ga, .int 0, .int 0, .ref vo])), (ss, .inl (G.2.1, 4, .inl (upd (upd (upd (upd (fun _ => 0) 0 (-1)) 1 (-1)) 2 (-1)) 3 (-1))))] := hD1
  have w_2 : r_1 = (if 0 ≤ v0 ∧ v0 ≤ 3 then -11 else -2) := w_2
  obtain ⟨hP, hD⟩ := va_join (wr := []) (w1 := [(h0, .inr (6, [.int 0, .ref kd, .ref mo, .ref st, .int 0, .ref ro, .ref tp, .int 0, .ref cd, .ref sr, .int 1, .int 0, .int 0, .ref ir, .ref ih, .ref ss, .ref sq, .ref ce, .ref lw, .int 40, .int 40, .int 0, .int 0, .ref wo, .ref he, .int 0, .int 0, .int 5, .ref sk, .ref na, .ref kp, .int 0, .int 0, .int 0, .int 0, .ref gb, .ref go, .ref fa, .ref ga, .int 0, .int 0, .ref vo])), (ss, .inl (G.2.1, 4, .inl (upd (upd (upd (upd (fun _ => 0) 0 (-1)) 1 (-1)) 2 (-1)) 3 (-1))))]) hP hD [0, 1] [] rfl rfl (by decide) (by decide) hk1 hFc hP1 hD1
  have hP : va_P G.1 vwCl [(h0, .inr (6, [.int 0, .ref kd, .ref mo, .ref st, .int 0, .ref ro, .ref tp, .int 0, .ref cd, .ref sr, .int 1, .int 0, .int 0, .ref ir, .ref ih, .ref ss, .ref sq, .ref ce, .ref lw, .int 40, .int 40, .int 0, .int 0, .ref wo, .ref he, .int 0, .int 0, .int 5, .ref sk, .ref na, .ref kp, .int 0, .int 0, .int 0, .int 0, .ref gb, .ref go, .ref fa, .ref ga, .int 0, .int 0, .ref vo])), (ss, .inl (G.2.1, 4, .inl (upd (upd (upd (upd (fun _ => 0) 0 (-1)) 1 (-1)) 2 (-1)) 3 (-1))))] H := hP
  have hD : va_D A [(h0, .inr (6, [.int 0, .ref kd, .ref mo, .ref st, .int 0, .ref ro, .ref tp, .int 0, .ref cd, .ref sr, .int 1, .int 0, .int 0, .ref ir, .ref ih, .ref ss, .ref sq, .ref ce, .ref lw, .int 40, .int 40, .int 0, .int 0, .ref wo, .ref he, .int 0, .int 0, .int 5, .ref sk, .ref na, .ref kp, .int 0, .int 0, .int 0, .int 0, .ref gb, .ref go, .ref fa, .ref ga, .int 0, .int 0, .ref vo])), (ss, .inl (G.2.1, 4, .inl (upd (upd (upd (upd (fun _ => 0) 0 (-1)) 1 (-1)) 2 (-1)) 3 (-1))))] := hD
  have hne : ¬ r_1 = 0 := by rw [w_2]; exact g_ne _
  have hrv := w_2
  refine lv_istore_n (lv' := [(2, .int r_1), (0, .ref h0), (1, .int v0)]) hx hb dX6_whose_5 rfl hl (by decide) rfl (fun ls hl => ?_)
  refine lv_iload_n hx hb dX6_whose_6 rfl (lv_at hl 0 rfl) ?_
  refine lv_if_eq (tgt := 12) hx hb dX6_whose_7 (by decide) (fun c_3 => ?_) (fun c_3 => ?_)
  · exact absurd c_3 (hne)
  refine lv_iload_n hx hb dX6_whose_10 rfl (lv_at hl 0 rfl) ?_
  have hpost : (fun (r : Int32) (u : Unit) => match u with | _ => r = (if 0 ≤ v0 ∧ v0 ≤ 3 then -11 else -2)) r_1 () := hrv
  exact W.iret (v := r_1) hx hb hr (fun t ht hW => ⟨⟨r_1, (), rfl, hpost, trivial⟩, hS.F ht⟩) hS.2.2 dX6_whose_11
abbrev q_X6_laws_0 (G : gG) (h0 kd mo st ro tp cd sr ir ih ss sq ce lw wo he sk na kp gb go fa ga vo : Nat) (v0 : Int32) (v1 : Int32) (A : Nat → Prop) : Array Value → State → Outcome → State → Prop := va_Qi (fun (r : Int32) (u : Unit) => match u with | _ => r = (if 0 ≤ v0 ∧ v0 ≤ 3 then -11 else -2)) (fun (u : Unit) t => match u with | _ => True) A
set_option maxHeartbeats 4000000 in
set_option maxRecDepth 100000 in
theorem c_X6_laws_0 (l : Launch) (G : gG) (h0 kd mo st ro tp cd sr ir ih ss sq ce lw wo he sk na kp gb go fa ga vo : Nat) (v0 : Int32) (v1 : Int32) (sz : Nat) : Met l yX6_laws wsX6_laws ({ frames := 3, cells := 0, slots := 0, locals := 69 }) (gPre G [.ref h0, .int v0, .int v1] [(h0, .inr (6, [.int 0, .ref kd, .ref mo, .ref st, .int 0, .ref ro, .ref tp, .int 0, .ref cd, .ref sr, .int 1, .int 0, .int 0, .ref ir, .ref ih, .ref ss, .ref sq, .ref ce, .ref lw, .int 40, .int 40, .int 0, .int 0, .ref wo, .ref he, .int 0, .int 0, .int 5, .ref sk, .ref na, .ref kp, .int 0, .int 0, .int 0, .int 0, .ref gb, .ref go, .ref fa, .ref ga, .int 0, .int 0, .ref vo])), (ss, .inl (G.2.1, 4, .inl (upd (upd (upd (upd (fun _ => 0) 0 (-1)) 1 (-1)) 2 (-1)) 3 (-1))))] sz) (q_X6_laws_0 G h0 kd mo st ro tp cd sr ir ih ss sq ce lw wo he sk na kp gb go fa ga vo v0 v1 (va_A [(h0, .inr (6, [.int 0, .ref kd, .ref mo, .ref st, .int 0, .ref ro, .ref tp, .int 0, .ref cd, .ref sr, .int 1, .int 0, .int 0, .ref ir, .ref ih, .ref ss, .ref sq, .ref ce, .ref lw, .int 40, .int 40, .int 0, .int 0, .ref wo, .ref he, .int 0, .int 0, .int 5, .ref sk, .ref na, .ref kp, .int 0, .int 0, .int 0, .int 0, .ref gb, .ref go, .ref fa, .ref ga, .int 0, .int 0, .ref vo])), (ss, .inl (G.2.1, 4, .inl (upd (upd (upd (upd (fun _ => 0) 0 (-1)) 1 (-1)) 2 (-1)) 3 (-1))))] sz)) 0 0 (va_A [(h0, .inr (6, [.int 0, .ref kd, .ref mo, .ref st, .int 0, .ref ro, .ref tp, .int 0, .ref cd, .ref sr, .int 1, .int 0, .int 0, .ref ir, .ref ih, .ref ss, .ref sq, .ref ce, .ref lw, .int 40, .int 40, .int 0, .int 0, .ref wo, .ref he, .int 0, .int 0, .int 5, .ref sk, .ref na, .ref kp, .int 0, .int 0, .int 0, .int 0, .ref gb, .ref go, .ref fa, .ref ga, .int 0, .int 0, .ref vo])), (ss, .inl (G.2.1, 4, .inl (upd (upd (upd (upd (fun _ => 0) 0 (-1)) 1 (-1)) 2 (-1)) 3 (-1))))] sz) := by
  refine Met.ofW (cc := cX6_laws) (maxL := 7) (ret := (some .int)) (by decide) rfl ?_
  intro p e s m args below meth c s₁ B hml hv
  obtain ⟨rfl, hsz, hP, hK, hD0⟩ := hv
  have hx := B.exec
  have hb := B.bytes
  have hr := B.returns
  have hts := atoms_spec (ws := wsX6_laws) B.pre
  have hown : s.vm.findClass RX6 = some m.cls := findClass_of_methodNamed B.named
  have hlocks := B.notSynchronized
  subst hsz
  have hD := hD0.self (sz := s.heap.size)
  generalize hAe : va_A [(h0, .inr (6, [.int 0, .ref kd, .ref mo, .ref st, .int 0, .ref ro, .ref tp, .int 0, .ref cd, .ref sr, .int 1, .int 0, .int 0, .ref ir, .ref ih, .ref ss, .ref sq, .ref ce, .ref lw, .int 40, .int 40, .int 0, .int 0, .ref wo, .ref he, .int 0, .int 0, .int 5, .ref sk, .ref na, .ref kp, .int 0, .int 0, .int 0, .int 0, .ref gb, .ref go, .ref fa, .ref ga, .int 0, .int 0, .ref vo])), (ss, .inl (G.2.1, 4, .inl (upd (upd (upd (upd (fun _ => 0) 0 (-1)) 1 (-1)) 2 (-1)) 3 (-1))))] s.heap.size = A at hD ⊢
  have hA : ∀ q : Nat, s.heap.size ≤ q → A q := fun q h => by rw [← hAe]; exact Or.inr h
  have hS : va_S A s.heap s.heap [] := va_S.rf
  have hP : va_P G.1 vwCl [(h0, .inr (6, [.int 0, .ref kd, .ref mo, .ref st, .int 0, .ref ro, .ref tp, .int 0, .ref cd, .ref sr, .int 1, .int 0, .int 0, .ref ir, .ref ih, .ref ss, .ref sq, .ref ce, .ref lw, .int 40, .int 40, .int 0, .int 0, .ref wo, .ref he, .int 0, .int 0, .int 5, .ref sk, .ref na, .ref kp, .int 0, .int 0, .int 0, .int 0, .ref gb, .ref go, .ref fa, .ref ga, .int 0, .int 0, .ref vo])), (ss, .inl (G.2.1, 4, .inl (upd (upd (upd (upd (fun _ => 0) 0 (-1)) 1 (-1)) 2 (-1)) 3 (-1))))] s.heap := hP
  have hD : va_D A [(h0, .inr (6, [.int 0, .ref kd, .ref mo, .ref st, .int 0, .ref ro, .ref tp, .int 0, .ref cd, .ref sr, .int 1, .int 0, .int 0, .ref ir, .ref ih, .ref ss, .ref sq, .ref ce, .ref lw, .int 40, .int 40, .int 0, .int 0, .ref wo, .ref he, .int 0, .int 0, .int 5, .ref sk, .ref na, .ref kp, .int 0, .int 0, .int 0, .int 0, .ref gb, .ref go, .ref fa, .ref ga, .int 0, .int 0, .ref vo])), (ss, .inl (G.2.1, 4, .inl (upd (upd (upd (upd (fun _ => 0) 0 (-1)) 1 (-1)) 2 (-1)) 3 (-1))))] := hD
  have hl := lv_entry ([.ref h0, .int v0, .int v1]) (n := 7) (Nat.le_of_ble_eq_true rfl)
  rw [lg_entry_eq]
  generalize (lg_sl ([.ref h0, .int v0, .int v1]) ++ List.replicate (7 - (lg_sl ([.ref h0, .int v0, .int v1])).length) Slot.unset).toArray = ls at hl ⊢
  have hl : lv_has ls 7 [(0, .ref h0), (1, .int v0), (2, .int v1)] := hl
  refine lv_aload_n hx hb dX6_laws_0 rfl (lv_at hl 0 rfl) ?_
  refine lv_iload_n hx hb dX6_laws_1 rfl (lv_at hl 1 rfl) ?_
  refine lv_iload_n hx hb dX6_laws_2 rfl (lv_at hl 2 rfl) ?_
  have hPc : va_P G.1 vwCl [(h0, .inr (6, [.int 0, .ref kd, .ref mo, .ref st, .int 0, .ref ro, .ref tp, .int 0, .ref cd, .ref sr, .int 1, .int 0, .int 0, .ref ir, .ref ih, .ref ss, .ref sq, .ref ce, .ref lw, .int 40, .int 40, .int 0, .int 0, .ref wo, .ref he, .int 0, .int 0, .int 5, .ref sk, .ref na, .ref kp, .int 0, .int 0, .int 0, .int 0, .ref gb, .ref go, .ref fa, .ref ga, .int 0, .int 0, .ref vo])), (ss, .inl (G.2.1, 4, .inl (upd (upd (upd (upd (fun _ => 0) 0 (-1)) 1 (-1)) 2 (-1)) 3 (-1))))] s.heap := hP.sub [0, 1] rfl
  have hDc : va_D A [(h0, .inr (6, [.int 0, .ref kd, .ref mo, .ref st, .int 0, .ref ro, .ref tp, .int 0, .ref cd, .ref sr, .int 1, .int 0, .int 0, .ref ir, .ref ih, .ref ss, .ref sq, .ref ce, .ref lw, .int 40, .int 40, .int 0, .int 0, .ref wo, .ref he, .int 0, .int 0, .int 5, .ref sk, .ref na, .ref kp, .int 0, .int 0, .int 0, .int 0, .ref gb, .ref go, .ref fa, .ref ga, .int 0, .int 0, .ref vo])), (ss, .inl (G.2.1, 4, .inl (upd (upd (upd (upd (fun _ => 0) 0 (-1)) 1 (-1)) 2 (-1)) 3 (-1))))] := hD.sub [0, 1] (by decide) rfl
  have hFc := va_free (wc := [(h0, .inr (6, [.int 0, .ref kd, .ref mo, .ref st, .int 0, .ref ro, .ref tp, .int 0, .ref cd, .ref sr, .int 1, .int 0, .int 0, .ref ir, .ref ih, .ref ss, .ref sq, .ref ce, .ref lw, .int 40, .int 40, .int 0, .int 0, .ref wo, .ref he, .int 0, .int 0, .int 5, .ref sk, .ref na, .ref kp, .int 0, .int 0, .int 0, .int 0, .ref gb, .ref go, .ref fa, .ref ga, .int 0, .int 0, .ref vo])), (ss, .inl (G.2.1, 4, .inl (upd (upd (upd (upd (fun _ => 0) 0 (-1)) 1 (-1)) 2 (-1)) 3 (-1))))]) hD hS hA [0, 1] rfl
  refine va_calli (va_runV (As := [.int v0, .int v1]) (rest := []) ⟨hx, hb, hml, hown, hts⟩ (c_X6_toldWrong_0 l G h0 kd mo st ro tp cd sr ir ih ss sq ce lw wo he sk na kp gb go fa ga vo v0 v1 s.heap.size) (cwV 2 hts gX6_laws_X6_toldWrong rfl rfl rfl (by decide +kernel) ⟨Nat.le_of_ble_eq_true rfl, Nat.le_of_ble_eq_true rfl⟩) ⟨gPre_blind, va_recv hK hPc (ci := 6) (q0 := 0) rfl rfl, fun U hU hW => gPre_of hU hW hK hPc hDc⟩ rfl rfl hl.1 rfl (lv_room (Nat.le_of_ble_eq_true rfl)) dX6_laws_3 ⟨Nat.le_of_ble_eq_true rfl, Nat.le_of_ble_eq_true rfl⟩) hS (fun q _ h => hFc q h) hFc (fun r_1 u t H locs ht hvm w_2 hB hz1 hk1 hS => ?_)
  obtain ⟨hP1, hK1, hD1⟩ := hB
  rw [ht] at hP1
  have hP1 : va_P G.1 vwCl [(h0, .inr (6, [.int 0, .ref kd, .ref mo, .ref st, .int 0, .ref ro, .ref tp, .int 0, .ref cd, .ref sr, .int 1, .int 0, .int 0, .ref ir, .ref ih, .ref ss, .ref sq, .ref ce, .ref lw, .int 40, .int 40, .int 0, .int 0, .ref wo, .ref he, .int 0, .int 0, .int 5, .ref sk, .ref na, .ref kp, .int 0, .int 0, .int 0, .int 0, .ref gb, .ref go, .ref fa, .ref ga, .int 0, .int 0, .ref vo])), (ss, .inl (G.2.1, 4, .inl (upd (upd (upd (upd (fun _ => 0) 0 (-1)) 1 (-1)) 2 (-1)) 3 (-1))))] H := hP1
  have hD1 : va_D (va_A [(h0, .inr (6, [.int 0, .ref kd, .ref mo, .ref st, .int 0, .ref ro, .ref tp, .int 0, .ref cd, .ref sr, .int 1, .int 0, .int 0, .ref ir, .ref ih, .ref ss, .ref sq, .ref ce, .ref lw, .int 40, .int 40, .int 0, .int 0, .ref wo, .ref he, .int 0, .int 0, .int 5, .ref sk, .ref na, .ref kp, .int 0, .int 0, .int 0, .int 0, .ref gb, .ref go, .ref fa, .ref ga, .int 0, .int 0, .ref vo])), (ss, .inl (G.2.1, 4, .inl (upd (upd (upd (upd (fun _ => 0) 0 (-1)) 1 (-1)) 2 (-1)) 3 (-1))))] s.heap.size) [(h0, .inr (6, [.int 0, .ref kd, .ref mo, .ref st, .int 0, .ref ro, .ref tp, .int 0, .ref cd, .ref sr, .int 1, .int 0, .int 0, .ref ir, .ref ih, .ref ss, .ref sq, .ref ce, .ref lw, .int 40, .int 40, .int 0, .int 0, .ref wo, .ref he, .int 0, .int 0, .int 5, .ref sk, .ref na, .ref kp, .int 0, .int 0, .int 0, .int 0, .ref gb, .ref go, .ref fa, .ref ga, .int 0, .int 0, .ref vo])), (ss, .inl (G.2.1, 4, .inl (upd (upd (upd (upd (fun _ => 0) 0 (-1)) 1 (-1)) 2 (-1)) 3 (-1))))] := hD1
  have w_2 : r_1 = (if 0 ≤ v0 ∧ v0 ≤ 3 then -11 else -2) := w_2
  obtain ⟨hP, hD⟩ := va_join (wr := []) (w1 := [(h0, .inr (6, [.int 0, .ref kd, .ref mo, .ref st, .int 0, .ref ro, .ref tp, .int 0, .ref cd, .ref sr, .int 1, .int 0, .int 0, .ref ir, .ref ih, .ref ss, .ref sq, .ref ce, .ref lw, .int 40, .int 40, .int 0, .int 0, .ref wo, .ref he, .int 0, .int 0, .int 5, .ref sk, .ref na, .ref kp, .int 0, .int 0, .int 0, .int 0, .ref gb, .ref go, .ref fa, .ref ga, .int 0, .int 0, .ref vo])), (ss, .inl (G.2.1, 4, .inl (upd (upd (upd (upd (fun _ => 0) 0 (-1)) 1 (-1)) 2 (-1)) 3 (-1))))]) hP hD [0, 1] [] rfl rfl (by decide) (by decide) hk1 hFc hP1 hD1
  have hP : va_P G.1 vwCl [(h0, .inr (6, [.int 0, .ref kd, .ref mo, .ref st, .int 0, .ref ro, .ref tp, .int 0, .ref cd, .ref sr, .int 1, .int 0, .int 0, .ref ir, .ref ih, .ref ss, .ref sq, .ref ce, .ref lw, .int 40, .int 40, .int 0, .int 0, .ref wo, .ref he, .int 0, .int 0, .int 5, .ref sk, .ref na, .ref kp, .int 0, .int 0, .int 0, .int 0, .ref gb, .ref go, .ref fa, .ref ga, .int 0, .int 0, .ref vo])), (ss, .inl (G.2.1, 4, .inl (upd (upd (upd (upd (fun _ => 0) 0 (-1)) 1 (-1)) 2 (-1)) 3 (-1))))] H := hP
  have hD : va_D A [(h0, .inr (6, [.int 0, .ref kd, .ref mo, .ref st, .int 0, .ref ro, .ref tp, .int 0, .ref cd, .ref sr, .int 1, .int 0, .int 0, .ref ir, .ref ih, .ref ss, .ref sq, .ref ce, .ref lw, .int 40, .int 40, .int 0, .int 0, .ref wo, .ref he, .int 0, .int 0, .int 5, .ref sk, .ref na, .ref kp, .int 0, .int 0, .int 0, .int 0, .ref gb, .ref go, .ref fa, .ref ga, .int 0, .int 0, .ref vo])), (ss, .inl (G.2.1, 4, .inl (upd (upd (upd (upd (fun _ => 0) 0 (-1)) 1 (-1)) 2 (-1)) 3 (-1))))] := hD
  have hne : ¬ r_1 = 0 := by rw [w_2]; exact g_ne _
  have hrv := w_2
  refine lv_istore_n (lv' := [(3, .int r_1), (0, .ref h0), (1, .int v0), (2, .int v1)]) hx hb dX6_laws_6 rfl hl (by decide) rfl (fun ls hl => ?_)
  refine lv_iload_n hx hb dX6_laws_7 rfl (lv_at hl 0 rfl) ?_
  refine lv_if_eq (tgt := 13) hx hb dX6_laws_8 (by decide) (fun c_3 => ?_) (fun c_3 => ?_)
  · exact absurd c_3 (hne)
  refine lv_iload_n hx hb dX6_laws_11 rfl (lv_at hl 0 rfl) ?_
  have hpost : (fun (r : Int32) (u : Unit) => match u with | _ => r = (if 0 ≤ v0 ∧ v0 ≤ 3 then -11 else -2)) r_1 () := hrv
  exact W.iret (v := r_1) hx hb hr (fun t ht hW => ⟨⟨r_1, (), rfl, hpost, trivial⟩, hS.F ht⟩) hS.2.2 dX6_laws_12
theorem pp_X6_film_0_1 (v0 : Int32) (v1 : Int32) (v2 : Int32) (p_4 : 0 ≤ v0 ∧ v0 ≤ 3) : ((-5) : Int32) = (if 0 ≤ v0 ∧ v0 ≤ 3 then -5 else -2) := by
  first
    | rfl
    | exact bz_pos (by (first | omega | (simp only [Int32.lt_iff_toInt_lt, Int32.le_iff_toInt_le, ← Int32.toInt_inj, Int32.reduceToInt] at * <;> omega)))
    | exact bz_neg (by (first | omega | (simp only [Int32.lt_iff_toInt_lt, Int32.le_iff_toInt_le, ← Int32.toInt_inj, Int32.reduceToInt] at * <;> omega)))
    | ((repeat' split) <;> first | rfl | assumption | (symm; assumption) | (exfalso; (first | omega | (simp only [Int32.lt_iff_toInt_lt, Int32.le_iff_toInt_le, ← Int32.toInt_inj, Int32.reduceToInt] at * <;> omega))))
theorem pp_X6_film_0_2 (v0 : Int32) (v1 : Int32) (v2 : Int32) (n_5 : ¬ (0 ≤ v0 ∧ v0 ≤ 3)) : ((-2) : Int32) = (if 0 ≤ v0 ∧ v0 ≤ 3 then -5 else -2) := by
  first
    | rfl
    | exact bz_pos (by (first | omega | (simp only [Int32.lt_iff_toInt_lt, Int32.le_iff_toInt_le, ← Int32.toInt_inj, Int32.reduceToInt] at * <;> omega)))
    | exact bz_neg (by (first | omega | (simp only [Int32.lt_iff_toInt_lt, Int32.le_iff_toInt_le, ← Int32.toInt_inj, Int32.reduceToInt] at * <;> omega)))
    | ((repeat' split) <;> first | rfl | assumption | (symm; assumption) | (exfalso; (first | omega | (simp only [Int32.lt_iff_toInt_lt, Int32.le_iff_toInt_le, ← Int32.toInt_inj, Int32.reduceToInt] at * <;> omega))))
abbrev q_X6_film_0 (G : gG) (h0 kd mo st ro tp cd sr ir ih ss sq ce lw wo he sk na kp gb go fa ga vo : Nat) (v0 : Int32) (v1 : Int32) (v2 : Int32) (A : Nat → Prop) : Array Value → State → Outcome → State → Prop := va_Qi (fun (r : Int32) (u : Unit) => match u with | _ => r = (if 0 ≤ v0 ∧ v0 ≤ 3 then -5 else -2)) (fun (u : Unit) t => match u with | _ => True) A
set_option maxHeartbeats 4000000 in
set_option maxRecDepth 100000 in
theorem c_X6_film_0 (l : Launch) (G : gG) (h0 kd mo st ro tp cd sr ir ih ss sq ce lw wo he sk na kp gb go fa ga vo : Nat) (v0 : Int32) (v1 : Int32) (v2 : Int32) (sz : Nat) : Met l yX6_film wsX6_film ({ frames := 2, cells := 0, slots := 0, locals := 43 }) (gPre G [.ref h0, .int v0, .int v1, .int v2] [(h0, .inr (6, [.int 0, .ref kd, .ref mo, .ref st, .int 0, .ref ro, .ref tp, .int 0, .ref cd, .ref sr, .int 1, .int 0, .int 0, .ref ir, .ref ih, .ref ss, .ref sq, .ref ce, .ref lw, .int 40, .int 40, .int 0, .int 0, .ref wo, .ref he, .int 0, .int 0, .int 5, .ref sk, .ref na, .ref kp, .int 0, .int 0, .int 0, .int 0, .ref gb, .ref go, .ref fa, .ref ga, .int 0, .int 0, .ref vo]))] sz) (q_X6_film_0 G h0 kd mo st ro tp cd sr ir ih ss sq ce lw wo he sk na kp gb go fa ga vo v0 v1 v2 (va_A [(h0, .inr (6, [.int 0, .ref kd, .ref mo, .ref st, .int 0, .ref ro, .ref tp, .int 0, .ref cd, .ref sr, .int 1, .int 0, .int 0, .ref ir, .ref ih, .ref ss, .ref sq, .ref ce, .ref lw, .int 40, .int 40, .int 0, .int 0, .ref wo, .ref he, .int 0, .int 0, .int 5, .ref sk, .ref na, .ref kp, .int 0, .int 0, .int 0, .int 0, .ref gb, .ref go, .ref fa, .ref ga, .int 0, .int 0, .ref vo]))] sz)) 0 0 (va_A [(h0, .inr (6, [.int 0, .ref kd, .ref mo, .ref st, .int 0, .ref ro, .ref tp, .int 0, .ref cd, .ref sr, .int 1, .int 0, .int 0, .ref ir, .ref ih, .ref ss, .ref sq, .ref ce, .ref lw, .int 40, .int 40, .int 0, .int 0, .ref wo, .ref he, .int 0, .int 0, .int 5, .ref sk, .ref na, .ref kp, .int 0, .int 0, .int 0, .int 0, .ref gb, .ref go, .ref fa, .ref ga, .int 0, .int 0, .ref vo]))] sz) := by
  refine Met.ofW (cc := cX6_film) (maxL := 8) (ret := (some .int)) (by decide) rfl ?_
  intro p e s m args below meth c s₁ B hml hv
  obtain ⟨rfl, hsz, hP, hK, hD0⟩ := hv
  have hx := B.exec
  have hb := B.bytes
  have hr := B.returns
  have hts := atoms_spec (ws := wsX6_film) B.pre
  have hown : s.vm.findClass RX6 = some m.cls := findClass_of_methodNamed B.named
  have hlocks := B.notSynchronized
  subst hsz
  have hD := hD0.self (sz := s.heap.size)
  generalize hAe : va_A [(h0, .inr (6, [.int 0, .ref kd, .ref mo, .ref st, .int 0, .ref ro, .ref tp, .int 0, .ref cd, .ref sr, .int 1, .int 0, .int 0, .ref ir, .ref ih, .ref ss, .ref sq, .ref ce, .ref lw, .int 40, .int 40, .int 0, .int 0, .ref wo, .ref he, .int 0, .int 0, .int 5, .ref sk, .ref na, .ref kp, .int 0, .int 0, .int 0, .int 0, .ref gb, .ref go, .ref fa, .ref ga, .int 0, .int 0, .ref vo]))] s.heap.size = A at hD ⊢
  have hA : ∀ q : Nat, s.heap.size ≤ q → A q := fun q h => by rw [← hAe]; exact Or.inr h
  have hS : va_S A s.heap s.heap [] := va_S.rf
  have hP : va_P G.1 vwCl [(h0, .inr (6, [.int 0, .ref kd, .ref mo, .ref st, .int 0, .ref ro, .ref tp, .int 0, .ref cd, .ref sr, .int 1, .int 0, .int 0, .ref ir, .ref ih, .ref ss, .ref sq, .ref ce, .ref lw, .int 40, .int 40, .int 0, .int 0, .ref wo, .ref he, .int 0, .int 0, .int 5, .ref sk, .ref na, .ref kp, .int 0, .int 0, .int 0, .int 0, .ref gb, .ref go, .ref fa, .ref ga, .int 0, .int 0, .ref vo]))] s.heap := hP
  have hD : va_D A [(h0, .inr (6, [.int 0, .ref kd, .ref mo, .ref st, .int 0, .ref ro, .ref tp, .int 0, .ref cd, .ref sr, .int 1, .int 0, .int 0, .ref ir, .ref ih, .ref ss, .ref sq, .ref ce, .ref lw, .int 40, .int 40, .int 0, .int 0, .ref wo, .ref he, .int 0, .int 0, .int 5, .ref sk, .ref na, .ref kp, .int 0, .int 0, .int 0, .int 0, .ref gb, .ref go, .ref fa, .ref ga, .int 0, .int 0, .ref vo]))] := hD
  have hl := lv_entry ([.ref h0, .int v0, .int v1, .int v2]) (n := 8) (Nat.le_of_ble_eq_true rfl)
  rw [lg_entry_eq]
  generalize (lg_sl ([.ref h0, .int v0, .int v1, .int v2]) ++ List.replicate (8 - (lg_sl ([.ref h0, .int v0, .int v1, .int v2])).length) Slot.unset).toArray = ls at hl ⊢
  have hl : lv_has ls 8 [(0, .ref h0), (1, .int v0), (2, .int v1), (3, .int v2)] := hl
  refine lv_iload_n hx hb dX6_film_0 rfl (lv_at hl 1 rfl) ?_
  refine lv_iconst (v := 0) hx hb dX6_film_1 (by decide) ?_
  refine lv_iconst (v := 3) hx hb dX6_film_2 (by decide) ?_
  have hPc : va_P G.1 vwCl [] s.heap := hP.sub [] rfl
  have hDc : va_D A [] := hD.sub [] (by decide) rfl
  have hFc := va_free (wc := []) hD hS hA [] rfl
  refine va_calli (va_runS (As := [.int v0, .int 0, .int 3]) (rest := []) ⟨hx, hb, hml, hown, hts⟩ (c_X6_in l G v0 0 3 s.heap.size) (va_cwS 3 hts gX6_film_X6_in rfl rfl rfl (by decide +kernel) ⟨Nat.le_of_ble_eq_true rfl, Nat.le_of_ble_eq_true rfl⟩) ⟨gPre_blind, fun U hU hW => gPre_of hU hW hK hPc hDc⟩ rfl rfl hl.1 rfl (lv_room (Nat.le_of_ble_eq_true rfl)) dX6_film_3 ⟨Nat.le_of_ble_eq_true rfl, Nat.le_of_ble_eq_true rfl⟩) hS (fun q _ h => hFc q h) hFc (fun r_1 u t H locs ht hvm w_2 hB hz1 hk1 hS => ?_)
  obtain ⟨hP1, hK1, hD1⟩ := hB
  rw [ht] at hP1
  have hP1 : va_P G.1 vwCl [] H := hP1
  have hD1 : va_D (va_A [] s.heap.size) [] := hD1
  have w_2 : r_1 = bz (decide (0 ≤ v0 ∧ v0 ≤ 3)) := w_2
  obtain ⟨hP, hD⟩ := va_join (wr := [(h0, .inr (6, [.int 0, .ref kd, .ref mo, .ref st, .int 0, .ref ro, .ref tp, .int 0, .ref cd, .ref sr, .int 1, .int 0, .int 0, .ref ir, .ref ih, .ref ss, .ref sq, .ref ce, .ref lw, .int 40, .int 40, .int 0, .int 0, .ref wo, .ref he, .int 0, .int 0, .int 5, .ref sk, .ref na, .ref kp, .int 0, .int 0, .int 0, .int 0, .ref gb, .ref go, .ref fa, .ref ga, .int 0, .int 0, .ref vo]))]) (w1 := []) hP hD [] [0] rfl rfl (by decide) (by decide) hk1 hFc hP1 hD1
  have hP : va_P G.1 vwCl [(h0, .inr (6, [.int 0, .ref kd, .ref mo, .ref st, .int 0, .ref ro, .ref tp, .int 0, .ref cd, .ref sr, .int 1, .int 0, .int 0, .ref ir, .ref ih, .ref ss, .ref sq, .ref ce, .ref lw, .int 40, .int 40, .int 0, .int 0, .ref wo, .ref he, .int 0, .int 0, .int 5, .ref sk, .ref na, .ref kp, .int 0, .int 0, .int 0, .int 0, .ref gb, .ref go, .ref fa, .ref ga, .int 0, .int 0, .ref vo]))] H := hP
  have hD : va_D A [(h0, .inr (6, [.int 0, .ref kd, .ref mo, .ref st, .int 0, .ref ro, .ref tp, .int 0, .ref cd, .ref sr, .int 1, .int 0, .int 0, .ref ir, .ref ih, .ref ss, .ref sq, .ref ce, .ref lw, .int 40, .int 40, .int 0, .int 0, .ref wo, .ref he, .int 0, .int 0, .int 5, .ref sk, .ref na, .ref kp, .int 0, .int 0, .int 0, .int 0, .ref gb, .ref go, .ref fa, .ref ga, .int 0, .int 0, .ref vo]))] := hD
  refine lv_if_ne (tgt := 12) hx hb dX6_film_6 (by decide) (fun c_3 => ?_) (fun c_3 => ?_)
  · skip
    have p_4 : 0 ≤ v0 ∧ v0 ≤ 3 := of_decide_eq_true (bz_ne w_2 c_3)
    refine lv_aload_n hx hb dX6_film_12 rfl (lv_at hl 0 rfl) ?_
    refine lv_iload_n hx hb dX6_film_13 rfl (lv_at hl 2 rfl) ?_
    have hPc : va_P G.1 vwCl [(h0, .inr (6, [.int 0, .ref kd, .ref mo, .ref st, .int 0, .ref ro, .ref tp, .int 0, .ref cd, .ref sr, .int 1, .int 0, .int 0, .ref ir, .ref ih, .ref ss, .ref sq, .ref ce, .ref lw, .int 40, .int 40, .int 0, .int 0, .ref wo, .ref he, .int 0, .int 0, .int 5, .ref sk, .ref na, .ref kp, .int 0, .int 0, .int 0, .int 0, .ref gb, .ref go, .ref fa, .ref ga, .int 0, .int 0, .ref vo]))] H := hP.sub [0] rfl
    have hDc : va_D A [(h0, .inr (6, [.int 0, .ref kd, .ref mo, .ref st, .int 0, .ref ro, .ref tp, .int 0, .ref cd, .ref sr, .int 1, .int 0, .int 0, .ref ir, .ref ih, .ref ss, .ref sq, .ref ce, .ref lw, .int 40, .int 40, .int 0, .int 0, .ref wo, .ref he, .int 0, .int 0, .int 5, .ref sk, .ref na, .ref kp, .int 0, .int 0, .int 0, .int 0, .ref gb, .ref go, .ref fa, .ref ga, .int 0, .int 0, .ref vo]))] := hD.sub [0] (by decide) rfl
    have hFc := va_free (wc := [(h0, .inr (6, [.int 0, .ref kd, .ref mo, .ref st, .int 0, .ref ro, .ref tp, .int 0, .ref cd, .ref sr, .int 1, .int 0, .int 0, .ref ir, .ref ih, .ref ss, .ref sq, .ref ce, .ref lw, .int 40, .int 40, .int 0, .int 0, .ref wo, .ref he, .int 0, .int 0, .int 5, .ref sk, .ref na, .ref kp, .int 0, .int 0, .int 0, .int 0, .ref gb, .ref go, .ref fa, .ref ga, .int 0, .int 0, .ref vo]))]) hD hS hA [0] rfl
    refine va_calli (va_runV (As := [.int v1]) (rest := []) ⟨hx, hb, hml, hown, hts⟩ (c_X6_isJudge_0 l G h0 kd mo st ro tp cd sr ir ih ss sq ce lw wo he sk na kp gb go fa ga vo v1 H.size) (cwV 1 hts gX6_film_X6_isJudge rfl rfl rfl (by decide +kernel) ⟨Nat.le_of_ble_eq_true rfl, Nat.le_of_ble_eq_true rfl⟩) ⟨gPre_blind, va_recv hK hPc (ci := 6) (q0 := 0) rfl rfl, fun U hU hW => gPre_of hU hW hK hPc hDc⟩ rfl rfl hl.1 rfl (lv_room (Nat.le_of_ble_eq_true rfl)) dX6_film_14 ⟨Nat.le_of_ble_eq_true rfl, Nat.le_of_ble_eq_true rfl⟩) hS (fun q _ h => hFc q h) hFc (fun r_6 u t H locs ht hvm w_7 hB hz1 hk1 hS => ?_)
    obtain ⟨hP1, hK1, hD1⟩ := hB
    rw [ht] at hP1
    have hP1 : va_P G.1 vwCl [(h0, .inr (6, [.int 0, .ref kd, .ref mo, .ref st, .int 0, .ref ro, .ref tp, .int 0, .ref cd, .ref sr, .int 1, .int 0, .int 0, .ref ir, .ref ih, .ref ss, .ref sq, .ref ce, .ref lw, .int 40, .int 40, .int 0, .int 0, .ref wo, .ref he, .int 0, .int 0, .int 5, .ref sk, .ref na, .ref kp, .int 0, .int 0, .int 0, .int 0, .ref gb, .ref go, .ref fa, .ref ga, .int 0, .int 0, .ref vo]))] H := hP1
    have hD1 : va_D (va_A [(h0, .inr (6, [.int 0, .ref kd, .ref mo, .ref st, .int 0, .ref ro, .ref tp, .int 0, .ref cd, .ref sr, .int 1, .int 0, .int 0, .ref ir, .ref ih, .ref ss, .ref sq, .ref ce, .ref lw, .int 40, .int 40, .int 0, .int 0, .ref wo, .ref he, .int 0, .int 0, .int 5, .ref sk, .ref na, .ref kp, .int 0, .int 0, .int 0, .int 0, .ref gb, .ref go, .ref fa, .ref ga, .int 0, .int 0, .ref vo]))] _) [(h0, .inr (6, [.int 0, .ref kd, .ref mo, .ref st, .int 0, .ref ro, .ref tp, .int 0, .ref cd, .ref sr, .int 1, .int 0, .int 0, .ref ir, .ref ih, .ref ss, .ref sq, .ref ce, .ref lw, .int 40, .int 40, .int 0, .int 0, .ref wo, .ref he, .int 0, .int 0, .int 5, .ref sk, .ref na, .ref kp, .int 0, .int 0, .int 0, .int 0, .ref gb, .ref go, .ref fa, .ref ga, .int 0, .int 0, .ref vo]))] := hD1
    have w_7 : r_6 = 0 := w_7
    obtain ⟨hP, hD⟩ := va_join (wr := []) (w1 := [(h0, .inr (6, [.int 0, .ref kd, .ref mo, .ref st, .int 0, .ref ro, .ref tp, .int 0, .ref cd, .ref sr, .int 1, .int 0, .int 0, .ref ir, .ref ih, .ref ss, .ref sq, .ref ce, .ref lw, .int 40, .int 40, .int 0, .int 0, .ref wo, .ref he, .int 0, .int 0, .int 5, .ref sk, .ref na, .ref kp, .int 0, .int 0, .int 0, .int 0, .ref gb, .ref go, .ref fa, .ref ga, .int 0, .int 0, .ref vo]))]) hP hD [0] [] rfl rfl (by decide) (by decide) hk1 hFc hP1 hD1
    have hP : va_P G.1 vwCl [(h0, .inr (6, [.int 0, .ref kd, .ref mo, .ref st, .int 0, .ref ro, .ref tp, .int 0, .ref cd, .ref sr, .int 1, .int 0, .int 0, .ref ir, .ref ih, .ref ss, .ref sq, .ref ce, .ref lw, .int 40, .int 40, .int 0, .int 0, .ref wo, .ref he, .int 0, .int 0, .int 5, .ref sk, .ref na, .ref kp, .int 0, .int 0, .int 0, .int 0, .ref gb, .ref go, .ref fa, .ref ga, .int 0, .int 0, .ref vo]))] H := hP
    have hD : va_D A [(h0, .inr (6, [.int 0, .ref kd, .ref mo, .ref st, .int 0, .ref ro, .ref tp, .int 0, .ref cd, .ref sr, .int 1, .int 0, .int 0, .ref ir, .ref ih, .ref ss, .ref sq, .ref ce, .ref lw, .int 40, .int 40, .int 0, .int 0, .ref wo, .ref he, .int 0, .int 0, .int 5, .ref sk, .ref na, .ref kp, .int 0, .int 0, .int 0, .int 0, .ref gb, .ref go, .ref fa, .ref ga, .int 0, .int 0, .ref vo]))] := hD
    have w_7 : r_6 = 0 := w_7
    subst w_7
    refine lv_if_ne (tgt := 23) hx hb dX6_film_17 (by decide) (fun c_8 => ?_) (fun c_8 => ?_)
    · exact absurd (by decide) c_8
    refine lv_bipush (v := -5) hx hb dX6_film_20 (by decide) ?_
    have hpost : (fun (r : Int32) (u : Unit) => match u with | _ => r = (if 0 ≤ v0 ∧ v0 ≤ 3 then -5 else -2)) (-5) () := pp_X6_film_0_1 v0 v1 v2 p_4
    exact W.iret (v := (-5)) hx hb hr (fun t ht hW => ⟨⟨(-5), (), rfl, hpost, trivial⟩, hS.F ht⟩) hS.2.2 dX6_film_22
  · skip
    have n_5 : ¬ (0 ≤ v0 ∧ v0 ≤ 3) := of_decide_eq_false (bz_eq w_2 c_3)
    refine lv_bipush (v := -2) hx hb dX6_film_9 (by decide) ?_
    have hpost : (fun (r : Int32) (u : Unit) => match u with | _ => r = (if 0 ≤ v0 ∧ v0 ≤ 3 then -5 else -2)) (-2) () := pp_X6_film_0_2 v0 v1 v2 n_5
    exact W.iret (v := (-2)) hx hb hr (fun t ht hW => ⟨⟨(-2), (), rfl, hpost, trivial⟩, hS.F ht⟩) hS.2.2 dX6_film_11
theorem pp_X6_image_0_1 : (0 : Int32) = 0 := by
  first
    | rfl
    | exact bz_pos (by (first | omega | (simp only [Int32.lt_iff_toInt_lt, Int32.le_iff_toInt_le, ← Int32.toInt_inj, Int32.reduceToInt] at * <;> omega)))
    | exact bz_neg (by (first | omega | (simp only [Int32.lt_iff_toInt_lt, Int32.le_iff_toInt_le, ← Int32.toInt_inj, Int32.reduceToInt] at * <;> omega)))
    | ((repeat' split) <;> first | rfl | assumption | (symm; assumption) | (exfalso; (first | omega | (simp only [Int32.lt_iff_toInt_lt, Int32.le_iff_toInt_le, ← Int32.toInt_inj, Int32.reduceToInt] at * <;> omega))))
abbrev q_X6_image_0 (G : gG) (h0 kd mo st ro tp cd sr ir ih ss sq ce lw wo he sk na kp gb go fa ga vo : Nat) (A : Nat → Prop) : Array Value → State → Outcome → State → Prop := va_Qi (fun (r : Int32) (u : Unit) => match u with | _ => r = 0) (fun (u : Unit) t => match u with | _ => True) A
set_option maxHeartbeats 4000000 in
set_option maxRecDepth 100000 in
theorem c_X6_image_0 (l : Launch) (G : gG) (h0 kd mo st ro tp cd sr ir ih ss sq ce lw wo he sk na kp gb go fa ga vo : Nat) (sz : Nat) : Met l yX6_image wsX6_image ({ frames := 0, cells := 0, slots := 0, locals := 0 }) (gPre G [.ref h0] [(h0, .inr (6, [.int 0, .ref kd, .ref mo, .ref st, .int 0, .ref ro, .ref tp, .int 0, .ref cd, .ref sr, .int 1, .int 0, .int 0, .ref ir, .ref ih, .ref ss, .ref sq, .ref ce, .ref lw, .int 40, .int 40, .int 0, .int 0, .ref wo, .ref he, .int 0, .int 0, .int 5, .ref sk, .ref na, .ref kp, .int 0, .int 0, .int 0, .int 0, .ref gb, .ref go, .ref fa, .ref ga, .int 0, .int 0, .ref vo])), (st, .inl (G.2.1, 12, .inl (fun _ => 0))), (ro, .inl (G.2.1, 12, .inl (fun _ => 0))), (ir, .inl (G.2.1, 24, .inl (fun _ => 0))), (ih, .inl (G.2.1, 3, .inl (fun _ => 0)))] sz) (q_X6_image_0 G h0 kd mo st ro tp cd sr ir ih ss sq ce lw wo he sk na kp gb go fa ga vo (va_A [(h0, .inr (6, [.int 0, .ref kd, .ref mo, .ref st, .int 0, .ref ro, .ref tp, .int 0, .ref cd, .ref sr, .int 1, .int 0, .int 0, .ref ir, .ref ih, .ref ss, .ref sq, .ref ce, .ref lw, .int 40, .int 40, .int 0, .int 0, .ref wo, .ref he, .int 0, .int 0, .int 5, .ref sk, .ref na, .ref kp, .int 0, .int 0, .int 0, .int 0, .ref gb, .ref go, .ref fa, .ref ga, .int 0, .int 0, .ref vo])), (st, .inl (G.2.1, 12, .inl (fun _ => 0))), (ro, .inl (G.2.1, 12, .inl (fun _ => 0))), (ir, .inl (G.2.1, 24, .inl (fun _ => 0))), (ih, .inl (G.2.1, 3, .inl (fun _ => 0)))] sz)) 0 0 (va_A [(h0, .inr (6, [.int 0, .ref kd, .ref mo, .ref st, .int 0, .ref ro, .ref tp, .int 0, .ref cd, .ref sr, .int 1, .int 0, .int 0, .ref ir, .ref ih, .ref ss, .ref sq, .ref ce, .ref lw, .int 40, .int 40, .int 0, .int 0, .ref wo, .ref he, .int 0, .int 0, .int 5, .ref sk, .ref na, .ref kp, .int 0, .int 0, .int 0, .int 0, .ref gb, .ref go, .ref fa, .ref ga, .int 0, .int 0, .ref vo])), (st, .inl (G.2.1, 12, .inl (fun _ => 0))), (ro, .inl (G.2.1, 12, .inl (fun _ => 0))), (ir, .inl (G.2.1, 24, .inl (fun _ => 0))), (ih, .inl (G.2.1, 3, .inl (fun _ => 0)))] sz) := by
  refine Met.ofW (cc := cX6_image) (maxL := 2) (ret := (some .int)) (by decide) rfl ?_
  intro p e s m args below meth c s₁ B hml hv
  obtain ⟨rfl, hsz, hP, hK, hD0⟩ := hv
  have hx := B.exec
  have hb := B.bytes
  have hr := B.returns
  have hts := atoms_spec (ws := wsX6_image) B.pre
  have hown : s.vm.findClass RX6 = some m.cls := findClass_of_methodNamed B.named
  have hlocks := B.notSynchronized
  subst hsz
  have hD := hD0.self (sz := s.heap.size)
  generalize hAe : va_A [(h0, .inr (6, [.int 0, .ref kd, .ref mo, .ref st, .int 0, .ref ro, .ref tp, .int 0, .ref cd, .ref sr, .int 1, .int 0, .int 0, .ref ir, .ref ih, .ref ss, .ref sq, .ref ce, .ref lw, .int 40, .int 40, .int 0, .int 0, .ref wo, .ref he, .int 0, .int 0, .int 5, .ref sk, .ref na, .ref kp, .int 0, .int 0, .int 0, .int 0, .ref gb, .ref go, .ref fa, .ref ga, .int 0, .int 0, .ref vo])), (st, .inl (G.2.1, 12, .inl (fun _ => 0))), (ro, .inl (G.2.1, 12, .inl (fun _ => 0))), (ir, .inl (G.2.1, 24, .inl (fun _ => 0))), (ih, .inl (G.2.1, 3, .inl (fun _ => 0)))] s.heap.size = A at hD ⊢
  have hA : ∀ q : Nat, s.heap.size ≤ q → A q := fun q h => by rw [← hAe]; exact Or.inr h
  have hS : va_S A s.heap s.heap [] := va_S.rf
  have hP : va_P G.1 vwCl [(h0, .inr (6, [.int 0, .ref kd, .ref mo, .ref st, .int 0, .ref ro, .ref tp, .int 0, .ref cd, .ref sr, .int 1, .int 0, .int 0, .ref ir, .ref ih, .ref ss, .ref sq, .ref ce, .ref lw, .int 40, .int 40, .int 0, .int 0, .ref wo, .ref he, .int 0, .int 0, .int 5, .ref sk, .ref na, .ref kp, .int 0, .int 0, .int 0, .int 0, .ref gb, .ref go, .ref fa, .ref ga, .int 0, .int 0, .ref vo])), (st, .inl (G.2.1, 12, .inl (fun _ => 0))), (ro, .inl (G.2.1, 12, .inl (fun _ => 0))), (ir, .inl (G.2.1, 24, .inl (fun _ => 0))), (ih, .inl (G.2.1, 3, .inl (fun _ => 0)))] s.heap := hP
  have hD : va_D A [(h0, .inr (6, [.int 0, .ref kd, .ref mo, .ref st, .int 0, .ref ro, .ref tp, .int 0, .ref cd, .ref sr, .int 1, .int 0, .int 0, .ref ir, .ref ih, .ref ss, .ref sq, .ref ce, .ref lw, .int 40, .int 40, .int 0, .int 0, .ref wo, .ref he, .int 0, .int 0, .int 5, .ref sk, .ref na, .ref kp, .int 0, .int 0, .int 0, .int 0, .ref gb, .ref go, .ref fa, .ref ga, .int 0, .int 0, .ref vo])), (st, .inl (G.2.1, 12, .inl (fun _ => 0))), (ro, .inl (G.2.1, 12, .inl (fun _ => 0))), (ir, .inl (G.2.1, 24, .inl (fun _ => 0))), (ih, .inl (G.2.1, 3, .inl (fun _ => 0)))] := hD
  have hl := lv_entry ([.ref h0]) (n := 2) (Nat.le_of_ble_eq_true rfl)
  rw [lg_entry_eq]
  generalize (lg_sl ([.ref h0]) ++ List.replicate (2 - (lg_sl ([.ref h0])).length) Slot.unset).toArray = ls at hl ⊢
  have hl : lv_has ls 2 [(0, .ref h0)] := hl
  have kf274 := hts (.fieldLink RX6 274 "PebbleInShoeModel" "hasImage" "Z") (by decide +kernel)
  have hiX6 := (by decide +kernel : ∀ w ∈ wsX60, w ∈ wsX6_image)
  have kf31 := hts (.fieldLink RX6 31 "PebbleInShoeModel" "imageRows" "[I") (by decide +kernel)
  have kf19 := hts (.fieldLink RX6 19 "PebbleInShoeModel" "rows" "[I") (by decide +kernel)
  have kf16 := hts (.fieldLink RX6 16 "PebbleInShoeModel" "stones" "[I") (by decide +kernel)
  have kf34 := hts (.fieldLink RX6 34 "PebbleInShoeModel" "imageHeld" "[I") (by decide +kernel)
  have kf88 := hts (.fieldLink RX6 88 "PebbleInShoeModel" "pebbles" "I") (by decide +kernel)
  have kf95 := hts (.fieldLink RX6 95 "PebbleInShoeModel" "judges" "I") (by decide +kernel)
  have kf101 := hts (.fieldLink RX6 101 "PebbleInShoeModel" "rule" "I") (by decide +kernel)
  refine lv_aload_n hx hb dX6_image_0 rfl (lv_at hl 0 rfl) ?_
  refine lv_iconst (v := 1) hx hb dX6_image_1 (by decide) ?_
  refine va_put (D := G.1) (ci := 6) (v := .int 1) (ty := .boolean) (C := RX6) (T := TX6) (N := 42) hx hb hts hiX6 tyX6 tyX6_ok nmX6 hown hK hP hD hS 0 rfl rfl 12 (by decide) kf274 (fun _ h9 => h9) rfl (by decide +kernel) rfl rfl (Nat.le_of_ble_eq_true rfl) dX6_image_2 (fun H locs hP hD hS => ?_)
  have hP : va_P G.1 vwCl [(h0, .inr (6, [.int 0, .ref kd, .ref mo, .ref st, .int 0, .ref ro, .ref tp, .int 0, .ref cd, .ref sr, .int 1, .int 0, .int 1, .ref ir, .ref ih, .ref ss, .ref sq, .ref ce, .ref lw, .int 40, .int 40, .int 0, .int 0, .ref wo, .ref he, .int 0, .int 0, .int 5, .ref sk, .ref na, .ref kp, .int 0, .int 0, .int 0, .int 0, .ref gb, .ref go, .ref fa, .ref ga, .int 0, .int 0, .ref vo])), (st, .inl (G.2.1, 12, .inl (fun _ => 0))), (ro, .inl (G.2.1, 12, .inl (fun _ => 0))), (ir, .inl (G.2.1, 24, .inl (fun _ => 0))), (ih, .inl (G.2.1, 3, .inl (fun _ => 0)))] H := hP
  have hD : va_D A [(h0, .inr (6, [.int 0, .ref kd, .ref mo, .ref st, .int 0, .ref ro, .ref tp, .int 0, .ref cd, .ref sr, .int 1, .int 0, .int 1, .ref ir, .ref ih, .ref ss, .ref sq, .ref ce, .ref lw, .int 40, .int 40, .int 0, .int 0, .ref wo, .ref he, .int 0, .int 0, .int 5, .ref sk, .ref na, .ref kp, .int 0, .int 0, .int 0, .int 0, .ref gb, .ref go, .ref fa, .ref ga, .int 0, .int 0, .ref vo])), (st, .inl (G.2.1, 12, .inl (fun _ => 0))), (ro, .inl (G.2.1, 12, .inl (fun _ => 0))), (ir, .inl (G.2.1, 24, .inl (fun _ => 0))), (ih, .inl (G.2.1, 3, .inl (fun _ => 0)))] := hD
  refine lv_iconst (v := 0) hx hb dX6_image_5 (by decide) ?_
  refine lv_istore_n (lv' := [(1, .int 0), (0, .ref h0)]) hx hb dX6_image_6 rfl hl (by decide) rfl (fun ls hl => ?_)
  refine lv_iload_n hx hb dX6_image_7 rfl (lv_at hl 0 rfl) ?_
  refine lv_bipush (v := 12) hx hb dX6_image_8 (by decide) ?_
  refine lv_icmp_ge (tgt := 46) hx hb dX6_image_10 (by decide) (fun c_1 => ?_) (fun c_1 => ?_)
  · exact absurd c_1 (by decide)
  refine lv_aload_n hx hb dX6_image_13 rfl (lv_at hl 1 rfl) ?_
  refine va_get (D := G.1) (ci := 6) (v := .ref ir) (C := RX6) (T := TX6) (N := 42) hx hb hts hiX6 hown hK hP 0 rfl rfl 13 (by decide) kf31 (fun _ h9 => h9) rfl dX6_image_14 ?_
  refine lv_iload_n hx hb dX6_image_17 rfl (lv_at hl 0 rfl) ?_
  refine lv_aload_n hx hb dX6_image_18 rfl (lv_at hl 1 rfl) ?_
  refine va_get (D := G.1) (ci := 6) (v := .ref ro) (C := RX6) (T := TX6) (N := 42) hx hb hts hiX6 hown hK hP 0 rfl rfl 5 (by decide) kf19 (fun _ h9 => h9) rfl dX6_image_19 ?_
  refine lv_iload_n hx hb dX6_image_22 rfl (lv_at hl 0 rfl) ?_
  refine va_iald (D := G.1) hx hb hK hP 2 0 rfl rfl (i := 0) (gIn (by decide)) dX6_image_23 ?_
  refine lv_topi (fun v_2 ev_2 => ?_)
  have ev_2 : v_2 = 0 := ev_2.trans (by decide)
  subst ev_2
  refine va_iast (D := G.1) hx hb hK hP hD hS 3 0 rfl rfl (i := 0) (x := 0) (gIn (by decide)) dX6_image_24 (fun H locs hP hD hS => ?_)
  have hP : va_P G.1 vwCl [(h0, .inr (6, [.int 0, .ref kd, .ref mo, .ref st, .int 0, .ref ro, .ref tp, .int 0, .ref cd, .ref sr, .int 1, .int 0, .int 1, .ref ir, .ref ih, .ref ss, .ref sq, .ref ce, .ref lw, .int 40, .int 40, .int 0, .int 0, .ref wo, .ref he, .int 0, .int 0, .int 5, .ref sk, .ref na, .ref kp, .int 0, .int 0, .int 0, .int 0, .ref gb, .ref go, .ref fa, .ref ga, .int 0, .int 0, .ref vo])), (st, .inl (G.2.1, 12, .inl (fun _ => 0))), (ro, .inl (G.2.1, 12, .inl (fun _ => 0))), (ir, .inl (G.2.1, 24, .inl (upd (fun _ => 0) 0 0))), (ih, .inl (G.2.1, 3, .inl (fun _ => 0)))] H := hP
  have hD : va_D A [(h0, .inr (6, [.int 0, .ref kd, .ref mo, .ref st, .int 0, .ref ro, .ref tp, .int 0, .ref cd, .ref sr, .int 1, .int 0, .int 1, .ref ir, .ref ih, .ref ss, .ref sq, .ref ce, .ref lw, .int 40, .int 40, .int 0, .int 0, .ref wo, .ref he, .int 0, .int 0, .int 5, .ref sk, .ref na, .ref kp, .int 0, .int 0, .int 0, .int 0, .ref gb, .ref go, .ref fa, .ref ga, .int 0, .int 0, .ref vo])), (st, .inl (G.2.1, 12, .inl (fun _ => 0))), (ro, .inl (G.2.1, 12, .inl (fun _ => 0))), (ir, .inl (G.2.1, 24, .inl (upd (fun _ => 0) 0 0))), (ih, .inl (G.2.1, 3, .inl (fun _ => 0)))] := hD
  refine lv_aload_n hx hb dX6_image_25 rfl (lv_at hl 1 rfl) ?_
  refine va_get (D := G.1) (ci := 6) (v := .ref ir) (C := RX6) (T := TX6) (N := 42) hx hb hts hiX6 hown hK hP 0 rfl rfl 13 (by decide) kf31 (fun _ h9 => h9) rfl dX6_image_26 ?_
  refine lv_bipush (v := 12) hx hb dX6_image_29 (by decide) ?_
  refine lv_iload_n hx hb dX6_image_31 rfl (lv_at hl 0 rfl) ?_
  refine lv_iadd hx hb dX6_image_32 ?_
  refine lv_topi (fun v_3 ev_3 => ?_)
  have ev_3 : v_3 = 12 := ev_3.trans (by decide)
  subst ev_3
  refine lv_aload_n hx hb dX6_image_33 rfl (lv_at hl 1 rfl) ?_
  refine va_get (D := G.1) (ci := 6) (v := .ref st) (C := RX6) (T := TX6) (N := 42) hx hb hts hiX6 hown hK hP 0 rfl rfl 3 (by decide) kf16 (fun _ h9 => h9) rfl dX6_image_34 ?_
  refine lv_iload_n hx hb dX6_image_37 rfl (lv_at hl 0 rfl) ?_
  refine va_iald (D := G.1) hx hb hK hP 1 0 rfl rfl (i := 0) (gIn (by decide)) dX6_image_38 ?_
  refine lv_topi (fun v_4 ev_4 => ?_)
  have ev_4 : v_4 = 0 := ev_4.trans (by decide)
  subst ev_4
  refine va_iast (D := G.1) hx hb hK hP hD hS 3 0 rfl rfl (i := 12) (x := 0) (gIn (by decide)) dX6_image_39 (fun H locs hP hD hS => ?_)
  have hP : va_P G.1 vwCl [(h0, .inr (6, [.int 0, .ref kd, .ref mo, .ref st, .int 0, .ref ro, .ref tp, .int 0, .ref cd, .ref sr, .int 1, .int 0, .int 1, .ref ir, .ref ih, .ref ss, .ref sq, .ref ce, .ref lw, .int 40, .int 40, .int 0, .int 0, .ref wo, .ref he, .int 0, .int 0, .int 5, .ref sk, .ref na, .ref kp, .int 0, .int 0, .int 0, .int 0, .ref gb, .ref go, .ref fa, .ref ga, .int 0, .int 0, .ref vo])), (st, .inl (G.2.1, 12, .inl (fun _ => 0))), (ro, .inl (G.2.1, 12, .inl (fun _ => 0))), (ir, .inl (G.2.1, 24, .inl (upd (upd (fun _ => 0) 0 0) 12 0))), (ih, .inl (G.2.1, 3, .inl (fun _ => 0)))] H := hP
  have hD : va_D A [(h0, .inr (6, [.int 0, .ref kd, .ref mo, .ref st, .int 0, .ref ro, .ref tp, .int 0, .ref cd, .ref sr, .int 1, .int 0, .int 1, .ref ir, .ref ih, .ref ss, .ref sq, .ref ce, .ref lw, .int 40, .int 40, .int 0, .int 0, .ref wo, .ref he, .int 0, .int 0, .int 5, .ref sk, .ref na, .ref kp, .int 0, .int 0, .int 0, .int 0, .ref gb, .ref go, .ref fa, .ref ga, .int 0, .int 0, .ref vo])), (st, .inl (G.2.1, 12, .inl (fun _ => 0))), (ro, .inl (G.2.1, 12, .inl (fun _ => 0))), (ir, .inl (G.2.1, 24, .inl (upd (upd (fun _ => 0) 0 0) 12 0))), (ih, .inl (G.2.1, 3, .inl (fun _ => 0)))] := hD
  refine lv_iinc (v := 1) (lv' := [(1, .int 1), (0, .ref h0)]) hx hb dX6_image_40 hl (k := 0) rfl (by decide) (by decide) rfl (fun ls hl => ?_)
  refine lv_goto (tgt := 7) hx hb dX6_image_43 (by decide) ?_
  refine lv_iload_n hx hb dX6_image_7 rfl (lv_at hl 0 rfl) ?_
  refine lv_bipush (v := 12) hx hb dX6_image_8 (by decide) ?_
  refine lv_icmp_ge (tgt := 46) hx hb dX6_image_10 (by decide) (fun c_5 => ?_) (fun c_5 => ?_)
  · exact absurd c_5 (by decide)
  refine lv_aload_n hx hb dX6_image_13 rfl (lv_at hl 1 rfl) ?_
  refine va_get (D := G.1) (ci := 6) (v := .ref ir) (C := RX6) (T := TX6) (N := 42) hx hb hts hiX6 hown hK hP 0 rfl rfl 13 (by decide) kf31 (fun _ h9 => h9) rfl dX6_image_14 ?_
  refine lv_iload_n hx hb dX6_image_17 rfl (lv_at hl 0 rfl) ?_
  refine lv_aload_n hx hb dX6_image_18 rfl (lv_at hl 1 rfl) ?_
  refine va_get (D := G.1) (ci := 6) (v := .ref ro) (C := RX6) (T := TX6) (N := 42) hx hb hts hiX6 hown hK hP 0 rfl rfl 5 (by decide) kf19 (fun _ h9 => h9) rfl dX6_image_19 ?_
  refine lv_iload_n hx hb dX6_image_22 rfl (lv_at hl 0 rfl) ?_
  refine va_iald (D := G.1) hx hb hK hP 2 0 rfl rfl (i := 1) (gIn (by decide)) dX6_image_23 ?_
  refine lv_topi (fun v_6 ev_6 => ?_)
  have ev_6 : v_6 = 0 := ev_6.trans (by decide)
  subst ev_6
  refine va_iast (D := G.1) hx hb hK hP hD hS 3 0 rfl rfl (i := 1) (x := 0) (gIn (by decide)) dX6_image_24 (fun H locs hP hD hS => ?_)
  have hP : va_P G.1 vwCl [(h0, .inr (6, [.int 0, .ref kd, .ref mo, .ref st, .int 0, .ref ro, .ref tp, .int 0, .ref cd, .ref sr, .int 1, .int 0, .int 1, .ref ir, .ref ih, .ref ss, .ref sq, .ref ce, .ref lw, .int 40, .int 40, .int 0, .int 0, .ref wo, .ref he, .int 0, .int 0, .int 5, .ref sk, .ref na, .ref kp, .int 0, .int 0, .int 0, .int 0, .ref gb, .ref go, .ref fa, .ref ga, .int 0, .int 0, .ref vo])), (st, .inl (G.2.1, 12, .inl (fun _ => 0))), (ro, .inl (G.2.1, 12, .inl (fun _ => 0))), (ir, .inl (G.2.1, 24, .inl (upd (upd (upd (fun _ => 0) 0 0) 12 0) 1 0))), (ih, .inl (G.2.1, 3, .inl (fun _ => 0)))] H := hP
  have hD : va_D A [(h0, .inr (6, [.int 0, .ref kd, .ref mo, .ref st, .int 0, .ref ro, .ref tp, .int 0, .ref cd, .ref sr, .int 1, .int 0, .int 1, .ref ir, .ref ih, .ref ss, .ref sq, .ref ce, .ref lw, .int 40, .int 40, .int 0, .int 0, .ref wo, .ref he, .int 0, .int 0, .int 5, .ref sk, .ref na, .ref kp, .int 0, .int 0, .int 0, .int 0, .ref gb, .ref go, .ref fa, .ref ga, .int 0, .int 0, .ref vo])), (st, .inl (G.2.1, 12, .inl (fun _ => 0))), (ro, .inl (G.2.1, 12, .inl (fun _ => 0))), (ir, .inl (G.2.1, 24, .inl (upd (upd (upd (fun _ => 0) 0 0) 12 0) 1 0))), (ih, .inl (G.2.1, 3, .inl (fun _ => 0)))] := hD
  refine lv_aload_n hx hb dX6_image_25 rfl (lv_at hl 1 rfl) ?_
  refine va_get (D := G.1) (ci := 6) (v := .ref ir) (C := RX6) (T := TX6) (N := 42) hx hb hts hiX6 hown hK hP 0 rfl rfl 13 (by decide) kf31 (fun _ h9 => h9) rfl dX6_image_26 ?_
  refine lv_bipush (v := 12) hx hb dX6_image_29 (by decide) ?_
  refine lv_iload_n hx hb dX6_image_31 rfl (lv_at hl 0 rfl) ?_
  refine lv_iadd hx hb dX6_image_32 ?_
  refine lv_topi (fun v_7 ev_7 => ?_)
  have ev_7 : v_7 = 13 := ev_7.trans (by decide)
  subst ev_7
  refine lv_aload_n hx hb dX6_image_33 rfl (lv_at hl 1 rfl) ?_
  refine va_get (D := G.1) (ci := 6) (v := .ref st) (C := RX6) (T := TX6) (N := 42) hx hb hts hiX6 hown hK hP 0 rfl rfl 3 (by decide) kf16 (fun _ h9 => h9) rfl dX6_image_34 ?_
  refine lv_iload_n hx hb dX6_image_37 rfl (lv_at hl 0 rfl) ?_
  refine va_iald (D := G.1) hx hb hK hP 1 0 rfl rfl (i := 1) (gIn (by decide)) dX6_image_38 ?_
  refine lv_topi (fun v_8 ev_8 => ?_)
  have ev_8 : v_8 = 0 := ev_8.trans (by decide)
  subst ev_8
  refine va_iast (D := G.1) hx hb hK hP hD hS 3 0 rfl rfl (i := 13) (x := 0) (gIn (by decide)) dX6_image_39 (fun H locs hP hD hS => ?_)
  have hP : va_P G.1 vwCl [(h0, .inr (6, [.int 0, .ref kd, .ref mo, .ref st, .int 0, .ref ro, .ref tp, .int 0, .ref cd, .ref sr, .int 1, .int 0, .int 1, .ref ir, .ref ih, .ref ss, .ref sq, .ref ce, .ref lw, .int 40, .int 40, .int 0, .int 0, .ref wo, .ref he, .int 0, .int 0, .int 5, .ref sk, .ref na, .ref kp, .int 0, .int 0, .int 0, .int 0, .ref gb, .ref go, .ref fa, .ref ga, .int 0, .int 0, .ref vo])), (st, .inl (G.2.1, 12, .inl (fun _ => 0))), (ro, .inl (G.2.1, 12, .inl (fun _ => 0))), (ir, .inl (G.2.1, 24, .inl (upd (upd (upd (upd (fun _ => 0) 0 0) 12 0) 1 0) 13 0))), (ih, .inl (G.2.1, 3, .inl (fun _ => 0)))] H := hP
  have hD : va_D A [(h0, .inr (6, [.int 0, .ref kd, .ref mo, .ref st, .int 0, .ref ro, .ref tp, .int 0, .ref cd, .ref sr, .int 1, .int 0, .int 1, .ref ir, .ref ih, .ref ss, .ref sq, .ref ce, .ref lw, .int 40, .int 40, .int 0, .int 0, .ref wo, .ref he, .int 0, .int 0, .int 5, .ref sk, .ref na, .ref kp, .int 0, .int 0, .int 0, .int 0, .ref gb, .ref go, .ref fa, .ref ga, .int 0, .int 0, .ref vo])), (st, .inl (G.2.1, 12, .inl (fun _ => 0))), (ro, .inl (G.2.1, 12, .inl (fun _ => 0))), (ir, .inl (G.2.1, 24, .inl (upd (upd (upd (upd (fun _ => 0) 0 0) 12 0) 1 0) 13 0))), (ih, .inl (G.2.1, 3, .inl (fun _ => 0)))] := hD
  refine lv_iinc (v := 2) (lv' := [(1, .int 2), (0, .ref h0)]) hx hb dX6_image_40 hl (k := 0) rfl (by decide) (by decide) rfl (fun ls hl => ?_)
  refine lv_goto (tgt := 7) hx hb dX6_image_43 (by decide) ?_
  refine lv_iload_n hx hb dX6_image_7 rfl (lv_at hl 0 rfl) ?_
  refine lv_bipush (v := 12) hx hb dX6_image_8 (by decide) ?_
  refine lv_icmp_ge (tgt := 46) hx hb dX6_image_10 (by decide) (fun c_9 => ?_) (fun c_9 => ?_)
  · exact absurd c_9 (by decide)
  refine lv_aload_n hx hb dX6_image_13 rfl (lv_at hl 1 rfl) ?_
  refine va_get (D := G.1) (ci := 6) (v := .ref ir) (C := RX6) (T := TX6) (N := 42) hx hb hts hiX6 hown hK hP 0 rfl rfl 13 (by decide) kf31 (fun _ h9 => h9) rfl dX6_image_14 ?_
  refine lv_iload_n hx hb dX6_image_17 rfl (lv_at hl 0 rfl) ?_
  refine lv_aload_n hx hb dX6_image_18 rfl (lv_at hl 1 rfl) ?_
  refine va_get (D := G.1) (ci := 6) (v := .ref ro) (C := RX6) (T := TX6) (N := 42) hx hb hts hiX6 hown hK hP 0 rfl rfl 5 (by decide) kf19 (fun _ h9 => h9) rfl dX6_image_19 ?_
  refine lv_iload_n hx hb dX6_image_22 rfl (lv_at hl 0 rfl) ?_
  refine va_iald (D := G.1) hx hb hK hP 2 0 rfl rfl (i := 2) (gIn (by decide)) dX6_image_23 ?_
  refine lv_topi (fun v_10 ev_10 => ?_)
  have ev_10 : v_10 = 0 := ev_10.trans (by decide)
  subst ev_10
  refine va_iast (D := G.1) hx hb hK hP hD hS 3 0 rfl rfl (i := 2) (x := 0) (gIn (by decide)) dX6_image_24 (fun H locs hP hD hS => ?_)
  have hP : va_P G.1 vwCl [(h0, .inr (6, [.int 0, .ref kd, .ref mo, .ref st, .int 0, .ref ro, .ref tp, .int 0, .ref cd, .ref sr, .int 1, .int 0, .int 1, .ref ir, .ref ih, .ref ss, .ref sq, .ref ce, .ref lw, .int 40, .int 40, .int 0, .int 0, .ref wo, .ref he, .int 0, .int 0, .int 5, .ref sk, .ref na, .ref kp, .int 0, .int 0, .int 0, .int 0, .ref gb, .ref go, .ref fa, .ref ga, .int 0, .int 0, .ref vo])), (st, .inl (G.2.1, 12, .inl (fun _ => 0))), (ro, .inl (G.2.1, 12, .inl (fun _ => 0))), (ir, .inl (G.2.1, 24, .inl (upd (upd (upd (upd (upd (fun _ => 0) 0 0) 12 0) 1 0) 13 0) 2 0))), (ih, .inl (G.2.1, 3, .inl (fun _ => 0)))] H := hP
  have hD : va_D A [(h0, .inr (6, [.int 0, .ref kd, .ref mo, .ref st, .int 0, .ref ro, .ref tp, .int 0, .ref cd, .ref sr, .int 1, .int 0, .int 1, .ref ir, .ref ih, .ref ss, .ref sq, .ref ce, .ref lw, .int 40, .int 40, .int 0, .int 0, .ref wo, .ref he, .int 0, .int 0, .int 5, .ref sk, .ref na, .ref kp, .int 0, .int 0, .int 0, .int 0, .ref gb, .ref go, .ref fa, .ref ga, .int 0, .int 0, .ref vo])), (st, .inl (G.2.1, 12, .inl (fun _ => 0))), (ro, .inl (G.2.1, 12, .inl (fun _ => 0))), (ir, .inl (G.2.1, 24, .inl (upd (upd (upd (upd (upd (fun _ => 0) 0 0) 12 0) 1 0) 13 0) 2 0))), (ih, .inl (G.2.1, 3, .inl (fun _ => 0)))] := hD
  refine lv_aload_n hx hb dX6_image_25 rfl (lv_at hl 1 rfl) ?_
  refine va_get (D := G.1) (ci := 6) (v := .ref ir) (C := RX6) (T := TX6) (N := 42) hx hb hts hiX6 hown hK hP 0 rfl rfl 13 (by decide) kf31 (fun _ h9 => h9) rfl dX6_image_26 ?_
  refine lv_bipush (v := 12) hx hb dX6_image_29 (by decide) ?_
  refine lv_iload_n hx hb dX6_image_31 rfl (lv_at hl 0 rfl) ?_
  refine lv_iadd hx hb dX6_image_32 ?_
  refine lv_topi (fun v_11 ev_11 => ?_)
  have ev_11 : v_11 = 14 := ev_11.trans (by decide)
  subst ev_11
  refine lv_aload_n hx hb dX6_image_33 rfl (lv_at hl 1 rfl) ?_
  refine va_get (D := G.1) (ci := 6) (v := .ref st) (C := RX6) (T := TX6) (N := 42) hx hb hts hiX6 hown hK hP 0 rfl rfl 3 (by decide) kf16 (fun _ h9 => h9) rfl dX6_image_34 ?_
  refine lv_iload_n hx hb dX6_image_37 rfl (lv_at hl 0 rfl) ?_
  refine va_iald (D := G.1) hx hb hK hP 1 0 rfl rfl (i := 2) (gIn (by decide)) dX6_image_38 ?_
  refine lv_topi (fun v_12 ev_12 => ?_)
  have ev_12 : v_12 = 0 := ev_12.trans (by decide)
  subst ev_12
  refine va_iast (D := G.1) hx hb hK hP hD hS 3 0 rfl rfl (i := 14) (x := 0) (gIn (by decide)) dX6_image_39 (fun H locs hP hD hS => ?_)
  have hP : va_P G.1 vwCl [(h0, .inr (6, [.int 0, .ref kd, .ref mo, .ref st, .int 0, .ref ro, .ref tp, .int 0, .ref cd, .ref sr, .int 1, .int 0, .int 1, .ref ir, .ref ih, .ref ss, .ref sq, .ref ce, .ref lw, .int 40, .int 40, .int 0, .int 0, .ref wo, .ref he, .int 0, .int 0, .int 5, .ref sk, .ref na, .ref kp, .int 0, .int 0, .int 0, .int 0, .ref gb, .ref go, .ref fa, .ref ga, .int 0, .int 0, .ref vo])), (st, .inl (G.2.1, 12, .inl (fun _ => 0))), (ro, .inl (G.2.1, 12, .inl (fun _ => 0))), (ir, .inl (G.2.1, 24, .inl (upd (upd (upd (upd (upd (upd (fun _ => 0) 0 0) 12 0) 1 0) 13 0) 2 0) 14 0))), (ih, .inl (G.2.1, 3, .inl (fun _ => 0)))] H := hP
  have hD : va_D A [(h0, .inr (6, [.int 0, .ref kd, .ref mo, .ref st, .int 0, .ref ro, .ref tp, .int 0, .ref cd, .ref sr, .int 1, .int 0, .int 1, .ref ir, .ref ih, .ref ss, .ref sq, .ref ce, .ref lw, .int 40, .int 40, .int 0, .int 0, .ref wo, .ref he, .int 0, .int 0, .int 5, .ref sk, .ref na, .ref kp, .int 0, .int 0, .int 0, .int 0, .ref gb, .ref go, .ref fa, .ref ga, .int 0, .int 0, .ref vo])), (st, .inl (G.2.1, 12, .inl (fun _ => 0))), (ro, .inl (G.2.1, 12, .inl (fun _ => 0))), (ir, .inl (G.2.1, 24, .inl (upd (upd (upd (upd (upd (upd (fun _ => 0) 0 0) 12 0) 1 0) 13 0) 2 0) 14 0))), (ih, .inl (G.2.1, 3, .inl (fun _ => 0)))] := hD
  refine lv_iinc (v := 3) (lv' := [(1, .int 3), (0, .ref h0)]) hx hb dX6_image_40 hl (k := 0) rfl (by decide) (by decide) rfl (fun ls hl => ?_)
  refine lv_goto (tgt := 7) hx hb dX6_image_43 (by decide) ?_
  refine lv_iload_n hx hb dX6_image_7 rfl (lv_at hl 0 rfl) ?_
  refine lv_bipush (v := 12) hx hb dX6_image_8 (by decide) ?_
  refine lv_icmp_ge (tgt := 46) hx hb dX6_image_10 (by decide) (fun c_13 => ?_) (fun c_13 => ?_)
  · exact absurd c_13 (by decide)
  refine lv_aload_n hx hb dX6_image_13 rfl (lv_at hl 1 rfl) ?_
  refine va_get (D := G.1) (ci := 6) (v := .ref ir) (C := RX6) (T := TX6) (N := 42) hx hb hts hiX6 hown hK hP 0 rfl rfl 13 (by decide) kf31 (fun _ h9 => h9) rfl dX6_image_14 ?_
  refine lv_iload_n hx hb dX6_image_17 rfl (lv_at hl 0 rfl) ?_
  refine lv_aload_n hx hb dX6_image_18 rfl (lv_at hl 1 rfl) ?_
  refine va_get (D := G.1) (ci := 6) (v := .ref ro) (C := RX6) (T := TX6) (N := 42) hx hb hts hiX6 hown hK hP 0 rfl rfl 5 (by decide) kf19 (fun _ h9 => h9) rfl dX6_image_19 ?_
  refine lv_iload_n hx hb dX6_image_22 rfl (lv_at hl 0 rfl) ?_
  refine va_iald (D := G.1) hx hb hK hP 2 0 rfl rfl (i := 3) (gIn (by decide)) dX6_image_23 ?_
  refine lv_topi (fun v_14 ev_14 => ?_)
  have ev_14 : v_14 = 0 := ev_14.trans (by decide)
  subst ev_14
  refine va_iast (D := G.1) hx hb hK hP hD hS 3 0 rfl rfl (i := 3) (x := 0) (gIn (by decide)) dX6_image_24 (fun H locs hP hD hS => ?_)
  have hP : va_P G.1 vwCl [(h0, .inr (6, [.int 0, .ref kd, .ref mo, .ref st, .int 0, .ref ro, .ref tp, .int 0, .ref cd, .ref sr, .int 1, .int 0, .int 1, .ref ir, .ref ih, .ref ss, .ref sq, .ref ce, .ref lw, .int 40, .int 40, .int 0, .int 0, .ref wo, .ref he, .int 0, .int 0, .int 5, .ref sk, .ref na, .ref kp, .int 0, .int 0, .int 0, .int 0, .ref gb, .ref go, .ref fa, .ref ga, .int 0, .int 0, .ref vo])), (st, .inl (G.2.1, 12, .inl (fun _ => 0))), (ro, .inl (G.2.1, 12, .inl (fun _ => 0))), (ir, .inl (G.2.1, 24, .inl (upd (upd (upd (upd (upd (upd (upd (fun _ => 0) 0 0) 12 0) 1 0) 13 0) 2 0) 14 0) 3 0))), (ih, .inl (G.2.1, 3, .inl (fun _ => 0)))] H := hP
  have hD : va_D A [(h0, .inr (6, [.int 0, .ref kd, .ref mo, .ref st, .int 0, .ref ro, .ref tp, .int 0, .ref cd, .ref sr, .int 1, .int 0, .int 1, .ref ir, .ref ih, .ref ss, .ref sq, .ref ce, .ref lw, .int 40, .int 40, .int 0, .int 0, .ref wo, .ref he, .int 0, .int 0, .int 5, .ref sk, .ref na, .ref kp, .int 0, .int 0, .int 0, .int 0, .ref gb, .ref go, .ref fa, .ref ga, .int 0, .int 0, .ref vo])), (st, .inl (G.2.1, 12, .inl (fun _ => 0))), (ro, .inl (G.2.1, 12, .inl (fun _ => 0))), (ir, .inl (G.2.1, 24, .inl (upd (upd (upd (upd (upd (upd (upd (fun _ => 0) 0 0) 12 0) 1 0) 13 0) 2 0) 14 0) 3 0))), (ih, .inl (G.2.1, 3, .inl (fun _ => 0)))] := hD
  refine lv_aload_n hx hb dX6_image_25 rfl (lv_at hl 1 rfl) ?_
  refine va_get (D := G.1) (ci := 6) (v := .ref ir) (C := RX6) (T := TX6) (N := 42) hx hb hts hiX6 hown hK hP 0 rfl rfl 13 (by decide) kf31 (fun _ h9 => h9) rfl dX6_image_26 ?_
  refine lv_bipush (v := 12) hx hb dX6_image_29 (by decide) ?_
  refine lv_iload_n hx hb dX6_image_31 rfl (lv_at hl 0 rfl) ?_
  refine lv_iadd hx hb dX6_image_32 ?_
  refine lv_topi (fun v_15 ev_15 => ?_)
  have ev_15 : v_15 = 15 := ev_15.trans (by decide)
  subst ev_15
  refine lv_aload_n hx hb dX6_image_33 rfl (lv_at hl 1 rfl) ?_
  refine va_get (D := G.1) (ci := 6) (v := .ref st) (C := RX6) (T := TX6) (N := 42) hx hb hts hiX6 hown hK hP 0 rfl rfl 3 (by decide) kf16 (fun _ h9 => h9) rfl dX6_image_34 ?_
  refine lv_iload_n hx hb dX6_image_37 rfl (lv_at hl 0 rfl) ?_
  refine va_iald (D := G.1) hx hb hK hP 1 0 rfl rfl (i := 3) (gIn (by decide)) dX6_image_38 ?_
  refine lv_topi (fun v_16 ev_16 => ?_)
  have ev_16 : v_16 = 0 := ev_16.trans (by decide)
  subst ev_16
  refine va_iast (D := G.1) hx hb hK hP hD hS 3 0 rfl rfl (i := 15) (x := 0) (gIn (by decide)) dX6_image_39 (fun H locs hP hD hS => ?_)
  have hP : va_P G.1 vwCl [(h0, .inr (6, [.int 0, .ref kd, .ref mo, .ref st, .int 0, .ref ro, .ref tp, .int 0, .ref cd, .ref sr, .int 1, .int 0, .int 1, .ref ir, .ref ih, .ref ss, .ref sq, .ref ce, .ref lw, .int 40, .int 40, .int 0, .int 0, .ref wo, .ref he, .int 0, .int 0, .int 5, .ref sk, .ref na, .ref kp, .int 0, .int 0, .int 0, .int 0, .ref gb, .ref go, .ref fa, .ref ga, .int 0, .int 0, .ref vo])), (st, .inl (G.2.1, 12, .inl (fun _ => 0))), (ro, .inl (G.2.1, 12, .inl (fun _ => 0))), (ir, .inl (G.2.1, 24, .inl (upd (upd (upd (upd (upd (upd (upd (upd (fun _ => 0) 0 0) 12 0) 1 0) 13 0) 2 0) 14 0) 3 0) 15 0))), (ih, .inl (G.2.1, 3, .inl (fun _ => 0)))] H := hP
  have hD : va_D A [(h0, .inr (6, [.int 0, .ref kd, .ref mo, .ref st, .int 0, .ref ro, .ref tp, .int 0, .ref cd, .ref sr, .int 1, .int 0, .int 1, .ref ir, .ref ih, .ref ss, .ref sq, .ref ce, .ref lw, .int 40, .int 40, .int 0, .int 0, .ref wo, .ref he, .int 0, .int 0, .int 5, .ref sk, .ref na, .ref kp, .int 0, .int 0, .int 0, .int 0, .ref gb, .ref go, .ref fa, .ref ga, .int 0, .int 0, .ref vo])), (st, .inl (G.2.1, 12, .inl (fun _ => 0))), (ro, .inl (G.2.1, 12, .inl (fun _ => 0))), (ir, .inl (G.2.1, 24, .inl (upd (upd (upd (upd (upd (upd (upd (upd (fun _ => 0) 0 0) 12 0) 1 0) 13 0) 2 0) 14 0) 3 0) 15 0))), (ih, .inl (G.2.1, 3, .inl (fun _ => 0)))] := hD
  refine lv_iinc (v := 4) (lv' := [(1, .int 4), (0, .ref h0)]) hx hb dX6_image_40 hl (k := 0) rfl (by decide) (by decide) rfl (fun ls hl => ?_)
  refine lv_goto (tgt := 7) hx hb dX6_image_43 (by decide) ?_
  refine lv_iload_n hx hb dX6_image_7 rfl (lv_at hl 0 rfl) ?_
  refine lv_bipush (v := 12) hx hb dX6_image_8 (by decide) ?_
  refine lv_icmp_ge (tgt := 46) hx hb dX6_image_10 (by decide) (fun c_17 => ?_) (fun c_17 => ?_)
  · exact absurd c_17 (by decide)
  refine lv_aload_n hx hb dX6_image_13 rfl (lv_at hl 1 rfl) ?_
  refine va_get (D := G.1) (ci := 6) (v := .ref ir) (C := RX6) (T := TX6) (N := 42) hx hb hts hiX6 hown hK hP 0 rfl rfl 13 (by decide) kf31 (fun _ h9 => h9) rfl dX6_image_14 ?_
  refine lv_iload_n hx hb dX6_image_17 rfl (lv_at hl 0 rfl) ?_
  refine lv_aload_n hx hb dX6_image_18 rfl (lv_at hl 1 rfl) ?_
  refine va_get (D := G.1) (ci := 6) (v := .ref ro) (C := RX6) (T := TX6) (N := 42) hx hb hts hiX6 hown hK hP 0 rfl rfl 5 (by decide) kf19 (fun _ h9 => h9) rfl dX6_image_19 ?_
  refine lv_iload_n hx hb dX6_image_22 rfl (lv_at hl 0 rfl) ?_
  refine va_iald (D := G.1) hx hb hK hP 2 0 rfl rfl (i := 4) (gIn (by decide)) dX6_image_23 ?_
  refine lv_topi (fun v_18 ev_18 => ?_)
  have ev_18 : v_18 = 0 := ev_18.trans (by decide)
  subst ev_18
  refine va_iast (D := G.1) hx hb hK hP hD hS 3 0 rfl rfl (i := 4) (x := 0) (gIn (by decide)) dX6_image_24 (fun H locs hP hD hS => ?_)
  have hP : va_P G.1 vwCl [(h0, .inr (6, [.int 0, .ref kd, .ref mo, .ref st, .int 0, .ref ro, .ref tp, .int 0, .ref cd, .ref sr, .int 1, .int 0, .int 1, .ref ir, .ref ih, .ref ss, .ref sq, .ref ce, .ref lw, .int 40, .int 40, .int 0, .int 0, .ref wo, .ref he, .int 0, .int 0, .int 5, .ref sk, .ref na, .ref kp, .int 0, .int 0, .int 0, .int 0, .ref gb, .ref go, .ref fa, .ref ga, .int 0, .int 0, .ref vo])), (st, .inl (G.2.1, 12, .inl (fun _ => 0))), (ro, .inl (G.2.1, 12, .inl (fun _ => 0))), (ir, .inl (G.2.1, 24, .inl (upd (upd (upd (upd (upd (upd (upd (upd (upd (fun _ => 0) 0 0) 12 0) 1 0) 13 0) 2 0) 14 0) 3 0) 15 0) 4 0))), (ih, .inl (G.2.1, 3, .inl (fun _ => 0)))] H := hP
  have hD : va_D A [(h0, .inr (6, [.int 0, .ref kd, .ref mo, .ref st, .int 0, .ref ro, .ref tp, .int 0, .ref cd, .ref sr, .int 1, .int 0, .int 1, .ref ir, .ref ih, .ref ss, .ref sq, .ref ce, .ref lw, .int 40, .int 40, .int 0, .int 0, .ref wo, .ref he, .int 0, .int 0, .int 5, .ref sk, .ref na, .ref kp, .int 0, .int 0, .int 0, .int 0, .ref gb, .ref go, .ref fa, .ref ga, .int 0, .int 0, .ref vo])), (st, .inl (G.2.1, 12, .inl (fun _ => 0))), (ro, .inl (G.2.1, 12, .inl (fun _ => 0))), (ir, .inl (G.2.1, 24, .inl (upd (upd (upd (upd (upd (upd (upd (upd (upd (fun _ => 0) 0 0) 12 0) 1 0) 13 0) 2 0) 14 0) 3 0) 15 0) 4 0))), (ih, .inl (G.2.1, 3, .inl (fun _ => 0)))] := hD
  refine lv_aload_n hx hb dX6_image_25 rfl (lv_at hl 1 rfl) ?_
  refine va_get (D := G.1) (ci := 6) (v := .ref ir) (C := RX6) (T := TX6) (N := 42) hx hb hts hiX6 hown hK hP 0 rfl rfl 13 (by decide) kf31 (fun _ h9 => h9) rfl dX6_image_26 ?_
  refine lv_bipush (v := 12) hx hb dX6_image_29 (by decide) ?_
  refine lv_iload_n hx hb dX6_image_31 rfl (lv_at hl 0 rfl) ?_
  refine lv_iadd hx hb dX6_image_32 ?_
  refine lv_topi (fun v_19 ev_19 => ?_)
  have ev_19 : v_19 = 16 := ev_19.trans (by decide)
  subst ev_19
  refine lv_aload_n hx hb dX6_image_33 rfl (lv_at hl 1 rfl) ?_
  refine va_get (D := G.1) (ci := 6) (v := .ref st) (C := RX6) (T := TX6) (N := 42) hx hb hts hiX6 hown hK hP 0 rfl rfl 3 (by decide) kf16 (fun _ h9 => h9) rfl dX6_image_34 ?_
  refine lv_iload_n hx hb dX6_image_37 rfl (lv_at hl 0 rfl) ?_
  refine va_iald (D := G.1) hx hb hK hP 1 0 rfl rfl (i := 4) (gIn (by decide)) dX6_image_38 ?_
  refine lv_topi (fun v_20 ev_20 => ?_)
  have ev_20 : v_20 = 0 := ev_20.trans (by decide)
  subst ev_20
  refine va_iast (D := G.1) hx hb hK hP hD hS 3 0 rfl rfl (i := 16) (x := 0) (gIn (by decide)) dX6_image_39 (fun H locs hP hD hS => ?_)
  have hP : va_P G.1 vwCl [(h0, .inr (6, [.int 0, .ref kd, .ref mo, .ref st, .int 0, .ref ro, .ref tp, .int 0, .ref cd, .ref sr, .int 1, .int 0, .int 1, .ref ir, .ref ih, .ref ss, .ref sq, .ref ce, .ref lw, .int 40, .int 40, .int 0, .int 0, .ref wo, .ref he, .int 0, .int 0, .int 5, .ref sk, .ref na, .ref kp, .int 0, .int 0, .int 0, .int 0, .ref gb, .ref go, .ref fa, .ref ga, .int 0, .int 0, .ref vo])), (st, .inl (G.2.1, 12, .inl (fun _ => 0))), (ro, .inl (G.2.1, 12, .inl (fun _ => 0))), (ir, .inl (G.2.1, 24, .inl (upd (upd (upd (upd (upd (upd (upd (upd (upd (upd (fun _ => 0) 0 0) 12 0) 1 0) 13 0) 2 0) 14 0) 3 0) 15 0) 4 0) 16 0))), (ih, .inl (G.2.1, 3, .inl (fun _ => 0)))] H := hP
  have hD : va_D A [(h0, .inr (6, [.int 0, .ref kd, .ref mo, .ref st, .int 0, .ref ro, .ref tp, .int 0, .ref cd, .ref sr, .int 1, .int 0, .int 1, .ref ir, .ref ih, .ref ss, .ref sq, .ref ce, .ref lw, .int 40, .int 40, .int 0, .int 0, .ref wo, .ref he, .int 0, .int 0, .int 5, .ref sk, .ref na, .ref kp, .int 0, .int 0, .int 0, .int 0, .ref gb, .ref go, .ref fa, .ref ga, .int 0, .int 0, .ref vo])), (st, .inl (G.2.1, 12, .inl (fun _ => 0))), (ro, .inl (G.2.1, 12, .inl (fun _ => 0))), (ir, .inl (G.2.1, 24, .inl (upd (upd (upd (upd (upd (upd (upd (upd (upd (upd (fun _ => 0) 0 0) 12 0) 1 0) 13 0) 2 0) 14 0) 3 0) 15 0) 4 0) 16 0))), (ih, .inl (G.2.1, 3, .inl (fun _ => 0)))] := hD
  refine lv_iinc (v := 5) (lv' := [(1, .int 5), (0, .ref h0)]) hx hb dX6_image_40 hl (k := 0) rfl (by decide) (by decide) rfl (fun ls hl => ?_)
  refine lv_goto (tgt := 7) hx hb dX6_image_43 (by decide) ?_
  refine lv_iload_n hx hb dX6_image_7 rfl (lv_at hl 0 rfl) ?_
  refine lv_bipush (v := 12) hx hb dX6_image_8 (by decide) ?_
  refine lv_icmp_ge (tgt := 46) hx hb dX6_image_10 (by decide) (fun c_21 => ?_) (fun c_21 => ?_)
  · exact absurd c_21 (by decide)
  refine lv_aload_n hx hb dX6_image_13 rfl (lv_at hl 1 rfl) ?_
  refine va_get (D := G.1) (ci := 6) (v := .ref ir) (C := RX6) (T := TX6) (N := 42) hx hb hts hiX6 hown hK hP 0 rfl rfl 13 (by decide) kf31 (fun _ h9 => h9) rfl dX6_image_14 ?_
  refine lv_iload_n hx hb dX6_image_17 rfl (lv_at hl 0 rfl) ?_
  refine lv_aload_n hx hb dX6_image_18 rfl (lv_at hl 1 rfl) ?_
  refine va_get (D := G.1) (ci := 6) (v := .ref ro) (C := RX6) (T := TX6) (N := 42) hx hb hts hiX6 hown hK hP 0 rfl rfl 5 (by decide) kf19 (fun _ h9 => h9) rfl dX6_image_19 ?_
  refine lv_iload_n hx hb dX6_image_22 rfl (lv_at hl 0 rfl) ?_
  refine va_iald (D := G.1) hx hb hK hP 2 0 rfl rfl (i := 5) (gIn (by decide)) dX6_image_23 ?_
  refine lv_topi (fun v_22 ev_22 => ?_)
  have ev_22 : v_22 = 0 := ev_22.trans (by decide)
  subst ev_22
  refine va_iast (D := G.1) hx hb hK hP hD hS 3 0 rfl rfl (i := 5) (x := 0) (gIn (by decide)) dX6_image_24 (fun H locs hP hD hS => ?_)
  have hP : va_P G.1 vwCl [(h0, .inr (6, [.int 0, .ref kd, .ref mo, .ref st, .int 0, .ref ro, .ref tp, .int 0, .ref cd, .ref sr, .int 1, .int 0, .int 1, .ref ir, .ref ih, .ref ss, .ref sq, .ref ce, .ref lw, .int 40, .int 40, .int 0, .int 0, .ref wo, .ref he, .int 0, .int 0, .int 5, .ref sk, .ref na, .ref kp, .int 0, .int 0, .int 0, .int 0, .ref gb, .ref go, .ref fa, .ref ga, .int 0, .int 0, .ref vo])), (st, .inl (G.2.1, 12, .inl (fun _ => 0))), (ro, .inl (G.2.1, 12, .inl (fun _ => 0))), (ir, .inl (G.2.1, 24, .inl (upd (upd (upd (upd (upd (upd (upd (upd (upd (upd (upd (fun _ => 0) 0 0) 12 0) 1 0) 13 0) 2 0) 14 0) 3 0) 15 0) 4 0) 16 0) 5 0))), (ih, .inl (G.2.1, 3, .inl (fun _ => 0)))] H := hP
  have hD : va_D A [(h0, .inr (6, [.int 0, .ref kd, .ref mo, .ref st, .int 0, .ref ro, .ref tp, .int 0, .ref cd, .ref sr, .int 1, .int 0, .int 1, .ref ir, .ref ih, .ref ss, .ref sq, .ref ce, .ref lw, .int 40, .int 40, .int 0, .int 0, .ref wo, .ref he, .int 0, .int 0, .int 5, .ref sk, .ref na, .ref kp, .int 0, .int 0, .int 0, .int 0, .ref gb, .ref go, .ref fa, .ref ga, .int 0, .int 0, .ref vo])), (st, .inl (G.2.1, 12, .inl (fun _ => 0))), (ro, .inl (G.2.1, 12, .inl (fun _ => 0))), (ir, .inl (G.2.1, 24, .inl (upd (upd (upd (upd (upd (upd (upd (upd (upd (upd (upd (fun _ => 0) 0 0) 12 0) 1 0) 13 0) 2 0) 14 0) 3 0) 15 0) 4 0) 16 0) 5 0))), (ih, .inl (G.2.1, 3, .inl (fun _ => 0)))] := hD
  refine lv_aload_n hx hb dX6_image_25 rfl (lv_at hl 1 rfl) ?_
  refine va_get (D := G.1) (ci := 6) (v := .ref ir) (C := RX6) (T := TX6) (N := 42) hx hb hts hiX6 hown hK hP 0 rfl rfl 13 (by decide) kf31 (fun _ h9 => h9) rfl dX6_image_26 ?_
  refine lv_bipush (v := 12) hx hb dX6_image_29 (by decide) ?_
  refine lv_iload_n hx hb dX6_image_31 rfl (lv_at hl 0 rfl) ?_
  refine lv_iadd hx hb dX6_image_32 ?_
  refine lv_topi (fun v_23 ev_23 => ?_)
  have ev_23 : v_23 = 17 := ev_23.trans (by decide)
  subst ev_23
  refine lv_aload_n hx hb dX6_image_33 rfl (lv_at hl 1 rfl) ?_
  refine va_get (D := G.1) (ci := 6) (v := .ref st) (C := RX6) (T := TX6) (N := 42) hx hb hts hiX6 hown hK hP 0 rfl rfl 3 (by decide) kf16 (fun _ h9 => h9) rfl dX6_image_34 ?_
  refine lv_iload_n hx hb dX6_image_37 rfl (lv_at hl 0 rfl) ?_
  refine va_iald (D := G.1) hx hb hK hP 1 0 rfl rfl (i := 5) (gIn (by decide)) dX6_image_38 ?_
  refine lv_topi (fun v_24 ev_24 => ?_)
  have ev_24 : v_24 = 0 := ev_24.trans (by decide)
  subst ev_24
  refine va_iast (D := G.1) hx hb hK hP hD hS 3 0 rfl rfl (i := 17) (x := 0) (gIn (by decide)) dX6_image_39 (fun H locs hP hD hS => ?_)
  have hP : va_P G.1 vwCl [(h0, .inr (6, [.int 0, .ref kd, .ref mo, .ref st, .int 0, .ref ro, .ref tp, .int 0, .ref cd, .ref sr, .int 1, .int 0, .int 1, .ref ir, .ref ih, .ref ss, .ref sq, .ref ce, .ref lw, .int 40, .int 40, .int 0, .int 0, .ref wo, .ref he, .int 0, .int 0, .int 5, .ref sk, .ref na, .ref kp, .int 0, .int 0, .int 0, .int 0, .ref gb, .ref go, .ref fa, .ref ga, .int 0, .int 0, .ref vo])), (st, .inl (G.2.1, 12, .inl (fun _ => 0))), (ro, .inl (G.2.1, 12, .inl (fun _ => 0))), (ir, .inl (G.2.1, 24, .inl (upd (upd (upd (upd (upd (upd (upd (upd (upd (upd (upd (upd (fun _ => 0) 0 0) 12 0) 1 0) 13 0) 2 0) 14 0) 3 0) 15 0) 4 0) 16 0) 5 0) 17 0))), (ih, .inl (G.2.1, 3, .inl (fun _ => 0)))] H := hP
  have hD : va_D A [(h0, .inr (6, [.int 0, .ref kd, .ref mo, .ref st, .int 0, .ref ro, .ref tp, .int 0, .ref cd, .ref sr, .int 1, .int 0, .int 1, .ref ir, .ref ih, .ref ss, .ref sq, .ref ce, .ref lw, .int 40, .int 40, .int 0, .int 0, .ref wo, .ref he, .int 0, .int 0, .int 5, .ref sk, .ref na, .ref kp, .int 0, .int 0, .int 0, .int 0, .ref gb, .ref go, .ref fa, .ref ga, .int 0, .int 0, .ref vo])), (st, .inl (G.2.1, 12, .inl (fun _ => 0))), (ro, .inl (G.2.1, 12, .inl (fun _ => 0))), (ir, .inl (G.2.1, 24, .inl (upd (upd (upd (upd (upd (upd (upd (upd (upd (upd (upd (upd (fun _ => 0) 0 0) 12 0) 1 0) 13 0) 2 0) 14 0) 3 0) 15 0) 4 0) 16 0) 5 0) 17 0))), (ih, .inl (G.2.1, 3, .inl (fun _ => 0)))] := hD
  refine lv_iinc (v := 6) (lv' := [(1, .int 6), (0, .ref h0)]) hx hb dX6_image_40 hl (k := 0) rfl (by decide) (by decide) rfl (fun ls hl => ?_)
  refine lv_goto (tgt := 7) hx hb dX6_image_43 (by decide) ?_
  refine lv_iload_n hx hb dX6_image_7 rfl (lv_at hl 0 rfl) ?_
  refine lv_bipush (v := 12) hx hb dX6_image_8 (by decide) ?_
  refine lv_icmp_ge (tgt := 46) hx hb dX6_image_10 (by decide) (fun c_25 => ?_) (fun c_25 => ?_)
  · exact absurd c_25 (by decide)
  refine lv_aload_n hx hb dX6_image_13 rfl (lv_at hl 1 rfl) ?_
  refine va_get (D := G.1) (ci := 6) (v := .ref ir) (C := RX6) (T := TX6) (N := 42) hx hb hts hiX6 hown hK hP 0 rfl rfl 13 (by decide) kf31 (fun _ h9 => h9) rfl dX6_image_14 ?_
  refine lv_iload_n hx hb dX6_image_17 rfl (lv_at hl 0 rfl) ?_
  refine lv_aload_n hx hb dX6_image_18 rfl (lv_at hl 1 rfl) ?_
  refine va_get (D := G.1) (ci := 6) (v := .ref ro) (C := RX6) (T := TX6) (N := 42) hx hb hts hiX6 hown hK hP 0 rfl rfl 5 (by decide) kf19 (fun _ h9 => h9) rfl dX6_image_19 ?_
  refine lv_iload_n hx hb dX6_image_22 rfl (lv_at hl 0 rfl) ?_
  refine va_iald (D := G.1) hx hb hK hP 2 0 rfl rfl (i := 6) (gIn (by decide)) dX6_image_23 ?_
  refine lv_topi (fun v_26 ev_26 => ?_)
  have ev_26 : v_26 = 0 := ev_26.trans (by decide)
  subst ev_26
  refine va_iast (D := G.1) hx hb hK hP hD hS 3 0 rfl rfl (i := 6) (x := 0) (gIn (by decide)) dX6_image_24 (fun H locs hP hD hS => ?_)
  have hP : va_P G.1 vwCl [(h0, .inr (6, [.int 0, .ref kd, .ref mo, .ref st, .int 0, .ref ro, .ref tp, .int 0, .ref cd, .ref sr, .int 1, .int 0, .int 1, .ref ir, .ref ih, .ref ss, .ref sq, .ref ce, .ref lw, .int 40, .int 40, .int 0, .int 0, .ref wo, .ref he, .int 0, .int 0, .int 5, .ref sk, .ref na, .ref kp, .int 0, .int 0, .int 0, .int 0, .ref gb, .ref go, .ref fa, .ref ga, .int 0, .int 0, .ref vo])), (st, .inl (G.2.1, 12, .inl (fun _ => 0))), (ro, .inl (G.2.1, 12, .inl (fun _ => 0))), (ir, .inl (G.2.1, 24, .inl (upd (upd (upd (upd (upd (upd (upd (upd (upd (upd (upd (upd (upd (fun _ => 0) 0 0) 12 0) 1 0) 13 0) 2 0) 14 0) 3 0) 15 0) 4 0) 16 0) 5 0) 17 0) 6 0))), (ih, .inl (G.2.1, 3, .inl (fun _ => 0)))] H := hP
  have hD : va_D A [(h0, .inr (6, [.int 0, .ref kd, .ref mo, .ref st, .int 0, .ref ro, .ref tp, .int 0, .ref cd, .ref sr, .int 1, .int 0, .int 1, .ref ir, .ref ih, .ref ss, .ref sq, .ref ce, .ref lw, .int 40, .int 40, .int 0, .int 0, .ref wo, .ref he, .int 0, .int 0, .int 5, .ref sk, .ref na, .ref kp, .int 0, .int 0, .int 0, .int 0, .ref gb, .ref go, .ref fa, .ref ga, .int 0, .int 0, .ref vo])), (st, .inl (G.2.1, 12, .inl (fun _ => 0))), (ro, .inl (G.2.1, 12, .inl (fun _ => 0))), (ir, .inl (G.2.1, 24, .inl (upd (upd (upd (upd (upd (upd (upd (upd (upd (upd (upd (upd (upd (fun _ => 0) 0 0) 12 0) 1 0) 13 0) 2 0) 14 0) 3 0) 15 0) 4 0) 16 0) 5 0) 17 0) 6 0))), (ih, .inl (G.2.1, 3, .inl (fun _ => 0)))] := hD
  refine lv_aload_n hx hb dX6_image_25 rfl (lv_at hl 1 rfl) ?_
  refine va_get (D := G.1) (ci := 6) (v := .ref ir) (C := RX6) (T := TX6) (N := 42) hx hb hts hiX6 hown hK hP 0 rfl rfl 13 (by decide) kf31 (fun _ h9 => h9) rfl dX6_image_26 ?_
  refine lv_bipush (v := 12) hx hb dX6_image_29 (by decide) ?_
  refine lv_iload_n hx hb dX6_image_31 rfl (lv_at hl 0 rfl) ?_
  refine lv_iadd hx hb dX6_image_32 ?_
  refine lv_topi (fun v_27 ev_27 => ?_)
  have ev_27 : v_27 = 18 := ev_27.trans (by decide)
  subst ev_27
  refine lv_aload_n hx hb dX6_image_33 rfl (lv_at hl 1 rfl) ?_
  refine va_get (D := G.1) (ci := 6) (v := .ref st) (C := RX6) (T := TX6) (N := 42) hx hb hts hiX6 hown hK hP 0 rfl rfl 3 (by decide) kf16 (fun _ h9 => h9) rfl dX6_image_34 ?_
  refine lv_iload_n hx hb dX6_image_37 rfl (lv_at hl 0 rfl) ?_
  refine va_iald (D := G.1) hx hb hK hP 1 0 rfl rfl (i := 6) (gIn (by decide)) dX6_image_38 ?_
  refine lv_topi (fun v_28 ev_28 => ?_)
  have ev_28 : v_28 = 0 := ev_28.trans (by decide)
  subst ev_28
  refine va_iast (D := G.1) hx hb hK hP hD hS 3 0 rfl rfl (i := 18) (x := 0) (gIn (by decide)) dX6_image_39 (fun H locs hP hD hS => ?_)
  have hP : va_P G.1 vwCl [(h0, .inr (6, [.int 0, .ref kd, .ref mo, .ref st, .int 0, .ref ro, .ref tp, .int 0, .ref cd, .ref sr, .int 1, .int 0, .int 1, .ref ir, .ref ih, .ref ss, .ref sq, .ref ce, .ref lw, .int 40, .int 40, .int 0, .int 0, .ref wo, .ref he, .int 0, .int 0, .int 5, .ref sk, .ref na, .ref kp, .int 0, .int 0, .int 0, .int 0, .ref gb, .ref go, .ref fa, .ref ga, .int 0, .int 0, .ref vo])), (st, .inl (G.2.1, 12, .inl (fun _ => 0))), (ro, .inl (G.2.1, 12, .inl (fun _ => 0))), (ir, .inl (G.2.1, 24, .inl (upd (upd (upd (upd (upd (upd (upd (upd (upd (upd (upd (upd (upd (upd (fun _ => 0) 0 0) 12 0) 1 0) 13 0) 2 0) 14 0) 3 0) 15 0) 4 0) 16 0) 5 0) 17 0) 6 0) 18 0))), (ih, .inl (G.2.1, 3, .inl (fun _ => 0)))] H := hP
  have hD : va_D A [(h0, .inr (6, [.int 0, .ref kd, .ref mo, .ref st, .int 0, .ref ro, .ref tp, .int 0, .ref cd, .ref sr, .int 1, .int 0, .int 1, .ref ir, .ref ih, .ref ss, .ref sq, .ref ce, .ref lw, .int 40, .int 40, .int 0, .int 0, .ref wo, .ref he, .int 0, .int 0, .int 5, .ref sk, .ref na, .ref kp, .int 0, .int 0, .int 0, .int 0, .ref gb, .ref go, .ref fa, .ref ga, .int 0, .int 0, .ref vo])), (st, .inl (G.2.1, 12, .inl (fun _ => 0))), (ro, .inl (G.2.1, 12, .inl (fun _ => 0))), (ir, .inl (G.2.1, 24, .inl (upd (upd (upd (upd (upd (upd (upd (upd (upd (upd (upd (upd (upd (upd (fun _ => 0) 0 0) 12 0) 1 0) 13 0) 2 0) 14 0) 3 0) 15 0) 4 0) 16 0) 5 0) 17 0) 6 0) 18 0))), (ih, .inl (G.2.1, 3, .inl (fun _ => 0)))] := hD
  refine lv_iinc (v := 7) (lv' := [(1, .int 7), (0, .ref h0)]) hx hb dX6_image_40 hl (k := 0) rfl (by decide) (by decide) rfl (fun ls hl => ?_)
  refine lv_goto (tgt := 7) hx hb dX6_image_43 (by decide) ?_
  refine lv_iload_n hx hb dX6_image_7 rfl (lv_at hl 0 rfl) ?_
  refine lv_bipush (v := 12) hx hb dX6_image_8 (by decide) ?_
  refine lv_icmp_ge (tgt := 46) hx hb dX6_image_10 (by decide) (fun c_29 => ?_) (fun c_29 => ?_)
  · exact absurd c_29 (by decide)
  refine lv_aload_n hx hb dX6_image_13 rfl (lv_at hl 1 rfl) ?_
  refine va_get (D := G.1) (ci := 6) (v := .ref ir) (C := RX6) (T := TX6) (N := 42) hx hb hts hiX6 hown hK hP 0 rfl rfl 13 (by decide) kf31 (fun _ h9 => h9) rfl dX6_image_14 ?_
  refine lv_iload_n hx hb dX6_image_17 rfl (lv_at hl 0 rfl) ?_
  refine lv_aload_n hx hb dX6_image_18 rfl (lv_at hl 1 rfl) ?_
  refine va_get (D := G.1) (ci := 6) (v := .ref ro) (C := RX6) (T := TX6) (N := 42) hx hb hts hiX6 hown hK hP 0 rfl rfl 5 (by decide) kf19 (fun _ h9 => h9) rfl dX6_image_19 ?_
  refine lv_iload_n hx hb dX6_image_22 rfl (lv_at hl 0 rfl) ?_
  refine va_iald (D := G.1) hx hb hK hP 2 0 rfl rfl (i := 7) (gIn (by decide)) dX6_image_23 ?_
  refine lv_topi (fun v_30 ev_30 => ?_)
  have ev_30 : v_30 = 0 := ev_30.trans (by decide)
  subst ev_30
  refine va_iast (D := G.1) hx hb hK hP hD hS 3 0 rfl rfl (i := 7) (x := 0) (gIn (by decide)) dX6_image_24 (fun H locs hP hD hS => ?_)
  have hP : va_P G.1 vwCl [(h0, .inr (6, [.int 0, .ref kd, .ref mo, .ref st, .int 0, .ref ro, .ref tp, .int 0, .ref cd, .ref sr, .int 1, .int 0, .int 1, .ref ir, .ref ih, .ref ss, .ref sq, .ref ce, .ref lw, .int 40, .int 40, .int 0, .int 0, .ref wo, .ref he, .int 0, .int 0, .int 5, .ref sk, .ref na, .ref kp, .int 0, .int 0, .int 0, .int 0, .ref gb, .ref go, .ref fa, .ref ga, .int 0, .int 0, .ref vo])), (st, .inl (G.2.1, 12, .inl (fun _ => 0))), (ro, .inl (G.2.1, 12, .inl (fun _ => 0))), (ir, .inl (G.2.1, 24, .inl (upd (upd (upd (upd (upd (upd (upd (upd (upd (upd (upd (upd (upd (upd (upd (fun _ => 0) 0 0) 12 0) 1 0) 13 0) 2 0) 14 0) 3 0) 15 0) 4 0) 16 0) 5 0) 17 0) 6 0) 18 0) 7 0))), (ih, .inl (G.2.1, 3, .inl (fun _ => 0)))] H := hP
  have hD : va_D A [(h0, .inr (6, [.int 0, .ref kd, .ref mo, .ref st, .int 0, .ref ro, .ref tp, .int 0, .ref cd, .ref sr, .int 1, .int 0, .int 1, .ref ir, .ref ih, .ref ss, .ref sq, .ref ce, .ref lw, .int 40, .int 40, .int 0, .int 0, .ref wo, .ref he, .int 0, .int 0, .int 5, .ref sk, .ref na, .ref kp, .int 0, .int 0, .int 0, .int 0, .ref gb, .ref go, .ref fa, .ref ga, .int 0, .int 0, .ref vo])), (st, .inl (G.2.1, 12, .inl (fun _ => 0))), (ro, .inl (G.2.1, 12, .inl (fun _ => 0))), (ir, .inl (G.2.1, 24, .inl (upd (upd (upd (upd (upd (upd (upd (upd (upd (upd (upd (upd (upd (upd (upd (fun _ => 0) 0 0) 12 0) 1 0) 13 0) 2 0) 14 0) 3 0) 15 0) 4 0) 16 0) 5 0) 17 0) 6 0) 18 0) 7 0))), (ih, .inl (G.2.1, 3, .inl (fun _ => 0)))] := hD
  refine lv_aload_n hx hb dX6_image_25 rfl (lv_at hl 1 rfl) ?_
  refine va_get (D := G.1) (ci := 6) (v := .ref ir) (C := RX6) (T := TX6) (N := 42) hx hb hts hiX6 hown hK hP 0 rfl rfl 13 (by decide) kf31 (fun _ h9 => h9) rfl dX6_image_26 ?_
  refine lv_bipush (v := 12) hx hb dX6_image_29 (by decide) ?_
  refine lv_iload_n hx hb dX6_image_31 rfl (lv_at hl 0 rfl) ?_
  refine lv_iadd hx hb dX6_image_32 ?_
  refine lv_topi (fun v_31 ev_31 => ?_)
  have ev_31 : v_31 = 19 := ev_31.trans (by decide)
  subst ev_31
  refine lv_aload_n hx hb dX6_image_33 rfl (lv_at hl 1 rfl) ?_
  refine va_get (D := G.1) (ci := 6) (v := .ref st) (C := RX6) (T := TX6) (N := 42) hx hb hts hiX6 hown hK hP 0 rfl rfl 3 (by decide) kf16 (fun _ h9 => h9) rfl dX6_image_34 ?_
  refine lv_iload_n hx hb dX6_image_37 rfl (lv_at hl 0 rfl) ?_
  refine va_iald (D := G.1) hx hb hK hP 1 0 rfl rfl (i := 7) (gIn (by decide)) dX6_image_38 ?_
  refine lv_topi (fun v_32 ev_32 => ?_)
  have ev_32 : v_32 = 0 := ev_32.trans (by decide)
  subst ev_32
  refine va_iast (D := G.1) hx hb hK hP hD hS 3 0 rfl rfl (i := 19) (x := 0) (gIn (by decide)) dX6_image_39 (fun H locs hP hD hS => ?_)
  have hP : va_P G.1 vwCl [(h0, .inr (6, [.int 0, .ref kd, .ref mo, .ref st, .int 0, .ref ro, .ref tp, .int 0, .ref cd, .ref sr, .int 1, .int 0, .int 1, .ref ir, .ref ih, .ref ss, .ref sq, .ref ce, .ref lw, .int 40, .int 40, .int 0, .int 0, .ref wo, .ref he, .int 0, .int 0, .int 5, .ref sk, .ref na, .ref kp, .int 0, .int 0, .int 0, .int 0, .ref gb, .ref go, .ref fa, .ref ga, .int 0, .int 0, .ref vo])), (st, .inl (G.2.1, 12, .inl (fun _ => 0))), (ro, .inl (G.2.1, 12, .inl (fun _ => 0))), (ir, .inl (G.2.1, 24, .inl (upd (upd (upd (upd (upd (upd (upd (upd (upd (upd (upd (upd (upd (upd (upd (upd (fun _ => 0) 0 0) 12 0) 1 0) 13 0) 2 0) 14 0) 3 0) 15 0) 4 0) 16 0) 5 0) 17 0) 6 0) 18 0) 7 0) 19 0))), (ih, .inl (G.2.1, 3, .inl (fun _ => 0)))] H := hP
  have hD : va_D A [(h0, .inr (6, [.int 0, .ref kd, .ref mo, .ref st, .int 0, .ref ro, .ref tp, .int 0, .ref cd, .ref sr, .int 1, .int 0, .int 1, .ref ir, .ref ih, .ref ss, .ref sq, .ref ce, .ref lw, .int 40, .int 40, .int 0, .int 0, .ref wo, .ref he, .int 0, .int 0, .int 5, .ref sk, .ref na, .ref kp, .int 0, .int 0, .int 0, .int 0, .ref gb, .ref go, .ref fa, .ref ga, .int 0, .int 0, .ref vo])), (st, .inl (G.2.1, 12, .inl (fun _ => 0))), (ro, .inl (G.2.1, 12, .inl (fun _ => 0))), (ir, .inl (G.2.1, 24, .inl (upd (upd (upd (upd (upd (upd (upd (upd (upd (upd (upd (upd (upd (upd (upd (upd (fun _ => 0) 0 0) 12 0) 1 0) 13 0) 2 0) 14 0) 3 0) 15 0) 4 0) 16 0) 5 0) 17 0) 6 0) 18 0) 7 0) 19 0))), (ih, .inl (G.2.1, 3, .inl (fun _ => 0)))] := hD
  refine lv_iinc (v := 8) (lv' := [(1, .int 8), (0, .ref h0)]) hx hb dX6_image_40 hl (k := 0) rfl (by decide) (by decide) rfl (fun ls hl => ?_)
  refine lv_goto (tgt := 7) hx hb dX6_image_43 (by decide) ?_
  refine lv_iload_n hx hb dX6_image_7 rfl (lv_at hl 0 rfl) ?_
  refine lv_bipush (v := 12) hx hb dX6_image_8 (by decide) ?_
  refine lv_icmp_ge (tgt := 46) hx hb dX6_image_10 (by decide) (fun c_33 => ?_) (fun c_33 => ?_)
  · exact absurd c_33 (by decide)
  refine lv_aload_n hx hb dX6_image_13 rfl (lv_at hl 1 rfl) ?_
  refine va_get (D := G.1) (ci := 6) (v := .ref ir) (C := RX6) (T := TX6) (N := 42) hx hb hts hiX6 hown hK hP 0 rfl rfl 13 (by decide) kf31 (fun _ h9 => h9) rfl dX6_image_14 ?_
  refine lv_iload_n hx hb dX6_image_17 rfl (lv_at hl 0 rfl) ?_
  refine lv_aload_n hx hb dX6_image_18 rfl (lv_at hl 1 rfl) ?_
  refine va_get (D := G.1) (ci := 6) (v := .ref ro) (C := RX6) (T := TX6) (N := 42) hx hb hts hiX6 hown hK hP 0 rfl rfl 5 (by decide) kf19 (fun _ h9 => h9) rfl dX6_image_19 ?_
  refine lv_iload_n hx hb dX6_image_22 rfl (lv_at hl 0 rfl) ?_
  refine va_iald (D := G.1) hx hb hK hP 2 0 rfl rfl (i := 8) (gIn (by decide)) dX6_image_23 ?_
  refine lv_topi (fun v_34 ev_34 => ?_)
  have ev_34 : v_34 = 0 := ev_34.trans (by decide)
  subst ev_34
  refine va_iast (D := G.1) hx hb hK hP hD hS 3 0 rfl rfl (i := 8) (x := 0) (gIn (by decide)) dX6_image_24 (fun H locs hP hD hS => ?_)
  have hP : va_P G.1 vwCl [(h0, .inr (6, [.int 0, .ref kd, .ref mo, .ref st, .int 0, .ref ro, .ref tp, .int 0, .ref cd, .ref sr, .int 1, .int 0, .int 1, .ref ir, .ref ih, .ref ss, .ref sq, .ref ce, .ref lw, .int 40, .int 40, .int 0, .int 0, .ref wo, .ref he, .int 0, .int 0, .int 5, .ref sk, .ref na, .ref kp, .int 0, .int 0, .int 0, .int 0, .ref gb, .ref go, .ref fa, .ref ga, .int 0, .int 0, .ref vo])), (st, .inl (G.2.1, 12, .inl (fun _ => 0))), (ro, .inl (G.2.1, 12, .inl (fun _ => 0))), (ir, .inl (G.2.1, 24, .inl (upd (upd (upd (upd (upd (upd (upd (upd (upd (upd (upd (upd (upd (upd (upd (upd (upd (fun _ => 0) 0 0) 12 0) 1 0) 13 0) 2 0) 14 0) 3 0) 15 0) 4 0) 16 0) 5 0) 17 0) 6 0) 18 0) 7 0) 19 0) 8 0))), (ih, .inl (G.2.1, 3, .inl (fun _ => 0)))] H := hP
  have hD : va_D A [(h0, .inr (6, [.int 0, .ref kd, .ref mo, .ref st, .int 0, .ref ro, .ref tp, .int 0, .ref cd, .ref sr, .int 1, .int 0, .int 1, .ref ir, .ref ih, .ref ss, .ref sq, .ref ce, .ref lw, .int 40, .int 40, .int 0, .int 0, .ref wo, .ref he, .int 0, .int 0, .int 5, .ref sk, .ref na, .ref kp, .int 0, .int 0, .int 0, .int 0, .ref gb, .ref go, .ref fa, .ref ga, .int 0, .int 0, .ref vo])), (st, .inl (G.2.1, 12, .inl (fun _ => 0))), (ro, .inl (G.2.1, 12, .inl (fun _ => 0))), (ir, .inl (G.2.1, 24, .inl (upd (upd (upd (upd (upd (upd (upd (upd (upd (upd (upd (upd (upd (upd (upd (upd (upd (fun _ => 0) 0 0) 12 0) 1 0) 13 0) 2 0) 14 0) 3 0) 15 0) 4 0) 16 0) 5 0) 17 0) 6 0) 18 0) 7 0) 19 0) 8 0))), (ih, .inl (G.2.1, 3, .inl (fun _ => 0)))] := hD
  refine lv_aload_n hx hb dX6_image_25 rfl (lv_at hl 1 rfl) ?_
  refine va_get (D := G.1) (ci := 6) (v := .ref ir) (C := RX6) (T := TX6) (N := 42) hx hb hts hiX6 hown hK hP 0 rfl rfl 13 (by decide) kf31 (fun _ h9 => h9) rfl dX6_image_26 ?_
  refine lv_bipush (v := 12) hx hb dX6_image_29 (by decide) ?_
  refine lv_iload_n hx hb dX6_image_31 rfl (lv_at hl 0 rfl) ?_
  refine lv_iadd hx hb dX6_image_32 ?_
  refine lv_topi (fun v_35 ev_35 => ?_)
  have ev_35 : v_35 = 20 := ev_35.trans (by decide)
  subst ev_35
  refine lv_aload_n hx hb dX6_image_33 rfl (lv_at hl 1 rfl) ?_
  refine va_get (D := G.1) (ci := 6) (v := .ref st) (C := RX6) (T := TX6) (N := 42) hx hb hts hiX6 hown hK hP 0 rfl rfl 3 (by decide) kf16 (fun _ h9 => h9) rfl dX6_image_34 ?_
  refine lv_iload_n hx hb dX6_image_37 rfl (lv_at hl 0 rfl) ?_
  refine va_iald (D := G.1) hx hb hK hP 1 0 rfl rfl (i := 8) (gIn (by decide)) dX6_image_38 ?_
  refine lv_topi (fun v_36 ev_36 => ?_)
  have ev_36 : v_36 = 0 := ev_36.trans (by decide)
  subst ev_36
  refine va_iast (D := G.1) hx hb hK hP hD hS 3 0 rfl rfl (i := 20) (x := 0) (gIn (by decide)) dX6_image_39 (fun H locs hP hD hS => ?_)
  have hP : va_P G.1 vwCl [(h0, .inr (6, [.int 0, .ref kd, .ref mo, .ref st, .int 0, .ref ro, .ref tp, .int 0, .ref cd, .ref sr, .int 1, .int 0, .int 1, .ref ir, .ref ih, .ref ss, .ref sq, .ref ce, .ref lw, .int 40, .int 40, .int 0, .int 0, .ref wo, .ref he, .int 0, .int 0, .int 5, .ref sk, .ref na, .ref kp, .int 0, .int 0, .int 0, .int 0, .ref gb, .ref go, .ref fa, .ref ga, .int 0, .int 0, .ref vo])), (st, .inl (G.2.1, 12, .inl (fun _ => 0))), (ro, .inl (G.2.1, 12, .inl (fun _ => 0))), (ir, .inl (G.2.1, 24, .inl (upd (upd (upd (upd (upd (upd (upd (upd (upd (upd (upd (upd (upd (upd (upd (upd (upd (upd (fun _ => 0) 0 0) 12 0) 1 0) 13 0) 2 0) 14 0) 3 0) 15 0) 4 0) 16 0) 5 0) 17 0) 6 0) 18 0) 7 0) 19 0) 8 0) 20 0))), (ih, .inl (G.2.1, 3, .inl (fun _ => 0)))] H := hP
  have hD : va_D A [(h0, .inr (6, [.int 0, .ref kd, .ref mo, .ref st, .int 0, .ref ro, .ref tp, .int 0, .ref cd, .ref sr, .int 1, .int 0, .int 1, .ref ir, .ref ih, .ref ss, .ref sq, .ref ce, .ref lw, .int 40, .int 40, .int 0, .int 0, .ref wo, .ref he, .int 0, .int 0, .int 5, .ref sk, .ref na, .ref kp, .int 0, .int 0, .int 0, .int 0, .ref gb, .ref go, .ref fa, .ref ga, .int 0, .int 0, .ref vo])), (st, .inl (G.2.1, 12, .inl (fun _ => 0))), (ro, .inl (G.2.1, 12, .inl (fun _ => 0))), (ir, .inl (G.2.1, 24, .inl (upd (upd (upd (upd (upd (upd (upd (upd (upd (upd (upd (upd (upd (upd (upd (upd (upd (upd (fun _ => 0) 0 0) 12 0) 1 0) 13 0) 2 0) 14 0) 3 0) 15 0) 4 0) 16 0) 5 0) 17 0) 6 0) 18 0) 7 0) 19 0) 8 0) 20 0))), (ih, .inl (G.2.1, 3, .inl (fun _ => 0)))] := hD
  refine lv_iinc (v := 9) (lv' := [(1, .int 9), (0, .ref h0)]) hx hb dX6_image_40 hl (k := 0) rfl (by decide) (by decide) rfl (fun ls hl => ?_)
  refine lv_goto (tgt := 7) hx hb dX6_image_43 (by decide) ?_
  refine lv_iload_n hx hb dX6_image_7 rfl (lv_at hl 0 rfl) ?_
  refine lv_bipush (v := 12) hx hb dX6_image_8 (by decide) ?_
  refine lv_icmp_ge (tgt := 46) hx hb dX6_image_10 (by decide) (fun c_37 => ?_) (fun c_37 => ?_)
  · exact absurd c_37 (by decide)
  refine lv_aload_n hx hb dX6_image_13 rfl (lv_at hl 1 rfl) ?_
  refine va_get (D := G.1) (ci := 6) (v := .ref ir) (C := RX6) (T := TX6) (N := 42) hx hb hts hiX6 hown hK hP 0 rfl rfl 13 (by decide) kf31 (fun _ h9 => h9) rfl dX6_image_14 ?_
  refine lv_iload_n hx hb dX6_image_17 rfl (lv_at hl 0 rfl) ?_
  refine lv_aload_n hx hb dX6_image_18 rfl (lv_at hl 1 rfl) ?_
  refine va_get (D := G.1) (ci := 6) (v := .ref ro) (C := RX6) (T := TX6) (N := 42) hx hb hts hiX6 hown hK hP 0 rfl rfl 5 (by decide) kf19 (fun _ h9 => h9) rfl dX6_image_19 ?_
  refine lv_iload_n hx hb dX6_image_22 rfl (lv_at hl 0 rfl) ?_
  refine va_iald (D := G.1) hx hb hK hP 2 0 rfl rfl (i := 9) (gIn (by decide)) dX6_image_23 ?_
  refine lv_topi (fun v_38 ev_38 => ?_)
  have ev_38 : v_38 = 0 := ev_38.trans (by decide)
  subst ev_38
  refine va_iast (D := G.1) hx hb hK hP hD hS 3 0 rfl rfl (i := 9) (x := 0) (gIn (by decide)) dX6_image_24 (fun H locs hP hD hS => ?_)
  have hP : va_P G.1 vwCl [(h0, .inr (6, [.int 0, .ref kd, .ref mo, .ref st, .int 0, .ref ro, .ref tp, .int 0, .ref cd, .ref sr, .int 1, .int 0, .int 1, .ref ir, .ref ih, .ref ss, .ref sq, .ref ce, .ref lw, .int 40, .int 40, .int 0, .int 0, .ref wo, .ref he, .int 0, .int 0, .int 5, .ref sk, .ref na, .ref kp, .int 0, .int 0, .int 0, .int 0, .ref gb, .ref go, .ref fa, .ref ga, .int 0, .int 0, .ref vo])), (st, .inl (G.2.1, 12, .inl (fun _ => 0))), (ro, .inl (G.2.1, 12, .inl (fun _ => 0))), (ir, .inl (G.2.1, 24, .inl (upd (upd (upd (upd (upd (upd (upd (upd (upd (upd (upd (upd (upd (upd (upd (upd (upd (upd (upd (fun _ => 0) 0 0) 12 0) 1 0) 13 0) 2 0) 14 0) 3 0) 15 0) 4 0) 16 0) 5 0) 17 0) 6 0) 18 0) 7 0) 19 0) 8 0) 20 0) 9 0))), (ih, .inl (G.2.1, 3, .inl (fun _ => 0)))] H := hP
  have hD : va_D A [(h0, .inr (6, [.int 0, .ref kd, .ref mo, .ref st, .int 0, .ref ro, .ref tp, .int 0, .ref cd, .ref sr, .int 1, .int 0, .int 1, .ref ir, .ref ih, .ref ss, .ref sq, .ref ce, .ref lw, .int 40, .int 40, .int 0, .int 0, .ref wo, .ref he, .int 0, .int 0, .int 5, .ref sk, .ref na, .ref kp, .int 0, .int 0, .int 0, .int 0, .ref gb, .ref go, .ref fa, .ref ga, .int 0, .int 0, .ref vo])), (st, .inl (G.2.1, 12, .inl (fun _ => 0))), (ro, .inl (G.2.1, 12, .inl (fun _ => 0))), (ir, .inl (G.2.1, 24, .inl (upd (upd (upd (upd (upd (upd (upd (upd (upd (upd (upd (upd (upd (upd (upd (upd (upd (upd (upd (fun _ => 0) 0 0) 12 0) 1 0) 13 0) 2 0) 14 0) 3 0) 15 0) 4 0) 16 0) 5 0) 17 0) 6 0) 18 0) 7 0) 19 0) 8 0) 20 0) 9 0))), (ih, .inl (G.2.1, 3, .inl (fun _ => 0)))] := hD
  refine lv_aload_n hx hb dX6_image_25 rfl (lv_at hl 1 rfl) ?_
  refine va_get (D := G.1) (ci := 6) (v := .ref ir) (C := RX6) (T := TX6) (N := 42) hx hb hts hiX6 hown hK hP 0 rfl rfl 13 (by decide) kf31 (fun _ h9 => h9) rfl dX6_image_26 ?_
  refine lv_bipush (v := 12) hx hb dX6_image_29 (by decide) ?_
  refine lv_iload_n hx hb dX6_image_31 rfl (lv_at hl 0 rfl) ?_
  refine lv_iadd hx hb dX6_image_32 ?_
  refine lv_topi (fun v_39 ev_39 => ?_)
  have ev_39 : v_39 = 21 := ev_39.trans (by decide)
  subst ev_39
  refine lv_aload_n hx hb dX6_image_33 rfl (lv_at hl 1 rfl) ?_
  refine va_get (D := G.1) (ci := 6) (v := .ref st) (C := RX6) (T := TX6) (N := 42) hx hb hts hiX6 hown hK hP 0 rfl rfl 3 (by decide) kf16 (fun _ h9 => h9) rfl dX6_image_34 ?_
  refine lv_iload_n hx hb dX6_image_37 rfl (lv_at hl 0 rfl) ?_
  refine va_iald (D := G.1) hx hb hK hP 1 0 rfl rfl (i := 9) (gIn (by decide)) dX6_image_38 ?_
  refine lv_topi (fun v_40 ev_40 => ?_)
  have ev_40 : v_40 = 0 := ev_40.trans (by decide)
  subst ev_40
  refine va_iast (D := G.1) hx hb hK hP hD hS 3 0 rfl rfl (i := 21) (x := 0) (gIn (by decide)) dX6_image_39 (fun H locs hP hD hS => ?_)
  have hP : va_P G.1 vwCl [(h0, .inr (6, [.int 0, .ref kd, .ref mo, .ref st, .int 0, .ref ro, .ref tp, .int 0, .ref cd, .ref sr, .int 1, .int 0, .int 1, .ref ir, .ref ih, .ref ss, .ref sq, .ref ce, .ref lw, .int 40, .int 40, .int 0, .int 0, .ref wo, .ref he, .int 0, .int 0, .int 5, .ref sk, .ref na, .ref kp, .int 0, .int 0, .int 0, .int 0, .ref gb, .ref go, .ref fa, .ref ga, .int 0, .int 0, .ref vo])), (st, .inl (G.2.1, 12, .inl (fun _ => 0))), (ro, .inl (G.2.1, 12, .inl (fun _ => 0))), (ir, .inl (G.2.1, 24, .inl (upd (upd (upd (upd (upd (upd (upd (upd (upd (upd (upd (upd (upd (upd (upd (upd (upd (upd (upd (upd (fun _ => 0) 0 0) 12 0) 1 0) 13 0) 2 0) 14 0) 3 0) 15 0) 4 0) 16 0) 5 0) 17 0) 6 0) 18 0) 7 0) 19 0) 8 0) 20 0) 9 0) 21 0))), (ih, .inl (G.2.1, 3, .inl (fun _ => 0)))] H := hP
  have hD : va_D A [(h0, .inr (6, [.int 0, .ref kd, .ref mo, .ref st, .int 0, .ref ro, .ref tp, .int 0, .ref cd, .ref sr, .int 1, .int 0, .int 1, .ref ir, .ref ih, .ref ss, .ref sq, .ref ce, .ref lw, .int 40, .int 40, .int 0, .int 0, .ref wo, .ref he, .int 0, .int 0, .int 5, .ref sk, .ref na, .ref kp, .int 0, .int 0, .int 0, .int 0, .ref gb, .ref go, .ref fa, .ref ga, .int 0, .int 0, .ref vo])), (st, .inl (G.2.1, 12, .inl (fun _ => 0))), (ro, .inl (G.2.1, 12, .inl (fun _ => 0))), (ir, .inl (G.2.1, 24, .inl (upd (upd (upd (upd (upd (upd (upd (upd (upd (upd (upd (upd (upd (upd (upd (upd (upd (upd (upd (upd (fun _ => 0) 0 0) 12 0) 1 0) 13 0) 2 0) 14 0) 3 0) 15 0) 4 0) 16 0) 5 0) 17 0) 6 0) 18 0) 7 0) 19 0) 8 0) 20 0) 9 0) 21 0))), (ih, .inl (G.2.1, 3, .inl (fun _ => 0)))] := hD
  refine lv_iinc (v := 10) (lv' := [(1, .int 10), (0, .ref h0)]) hx hb dX6_image_40 hl (k := 0) rfl (by decide) (by decide) rfl (fun ls hl => ?_)
  refine lv_goto (tgt := 7) hx hb dX6_image_43 (by decide) ?_
  refine lv_iload_n hx hb dX6_image_7 rfl (lv_at hl 0 rfl) ?_
  refine lv_bipush (v := 12) hx hb dX6_image_8 (by decide) ?_
  refine lv_icmp_ge (tgt := 46) hx hb dX6_image_10 (by decide) (fun c_41 => ?_) (fun c_41 => ?_)
  · exact absurd c_41 (by decide)
  refine lv_aload_n hx hb dX6_image_13 rfl (lv_at hl 1 rfl) ?_
  refine va_get (D := G.1) (ci := 6) (v := .ref ir) (C := RX6) (T := TX6) (N := 42) hx hb hts hiX6 hown hK hP 0 rfl rfl 13 (by decide) kf31 (fun _ h9 => h9) rfl dX6_image_14 ?_
  refine lv_iload_n hx hb dX6_image_17 rfl (lv_at hl 0 rfl) ?_
  refine lv_aload_n hx hb dX6_image_18 rfl (lv_at hl 1 rfl) ?_
  refine va_get (D := G.1) (ci := 6) (v := .ref ro) (C := RX6) (T := TX6) (N := 42) hx hb hts hiX6 hown hK hP 0 rfl rfl 5 (by decide) kf19 (fun _ h9 => h9) rfl dX6_image_19 ?_
  refine lv_iload_n hx hb dX6_image_22 rfl (lv_at hl 0 rfl) ?_
  refine va_iald (D := G.1) hx hb hK hP 2 0 rfl rfl (i := 10) (gIn (by decide)) dX6_image_23 ?_
  refine lv_topi (fun v_42 ev_42 => ?_)
  have ev_42 : v_42 = 0 := ev_42.trans (by decide)
  subst ev_42
  refine va_iast (D := G.1) hx hb hK hP hD hS 3 0 rfl rfl (i := 10) (x := 0) (gIn (by decide)) dX6_image_24 (fun H locs hP hD hS => ?_)
  have hP : va_P G.1 vwCl [(h0, .inr (6, [.int 0, .ref kd, .ref mo, .ref st, .int 0, .ref ro, .ref tp, .int 0, .ref cd, .ref sr, .int 1, .int 0, .int 1, .ref ir, .ref ih, .ref ss, .ref sq, .ref ce, .ref lw, .int 40, .int 40, .int 0, .int 0, .ref wo, .ref he, .int 0, .int 0, .int 5, .ref sk, .ref na, .ref kp, .int 0, .int 0, .int 0, .int 0, .ref gb, .ref go, .ref fa, .ref ga, .int 0, .int 0, .ref vo])), (st, .inl (G.2.1, 12, .inl (fun _ => 0))), (ro, .inl (G.2.1, 12, .inl (fun _ => 0))), (ir, .inl (G.2.1, 24, .inl (upd (upd (upd (upd (upd (upd (upd (upd (upd (upd (upd (upd (upd (upd (upd (upd (upd (upd (upd (upd (upd (fun _ => 0) 0 0) 12 0) 1 0) 13 0) 2 0) 14 0) 3 0) 15 0) 4 0) 16 0) 5 0) 17 0) 6 0) 18 0) 7 0) 19 0) 8 0) 20 0) 9 0) 21 0) 10 0))), (ih, .inl (G.2.1, 3, .inl (fun _ => 0)))] H := hP
  have hD : va_D A [(h0, .inr (6, [.int 0, .ref kd, .ref mo, .ref st, .int 0, .ref ro, .ref tp, .int 0, .ref cd, .ref sr, .int 1, .int 0, .int 1, .ref ir, .ref ih, .ref ss, .ref sq, .ref ce, .ref lw, .int 40, .int 40, .int 0, .int 0, .ref wo, .ref he, .int 0, .int 0, .int 5, .ref sk, .ref na, .ref kp, .int 0, .int 0, .int 0, .int 0, .ref gb, .ref go, .ref fa, .ref ga, .int 0, .int 0, .ref vo])), (st, .inl (G.2.1, 12, .inl (fun _ => 0))), (ro, .inl (G.2.1, 12, .inl (fun _ => 0))), (ir, .inl (G.2.1, 24, .inl (upd (upd (upd (upd (upd (upd (upd (upd (upd (upd (upd (upd (upd (upd (upd (upd (upd (upd (upd (upd (upd (fun _ => 0) 0 0) 12 0) 1 0) 13 0) 2 0) 14 0) 3 0) 15 0) 4 0) 16 0) 5 0) 17 0) 6 0) 18 0) 7 0) 19 0) 8 0) 20 0) 9 0) 21 0) 10 0))), (ih, .inl (G.2.1, 3, .inl (fun _ => 0)))] := hD
  refine lv_aload_n hx hb dX6_image_25 rfl (lv_at hl 1 rfl) ?_
  refine va_get (D := G.1) (ci := 6) (v := .ref ir) (C := RX6) (T := TX6) (N := 42) hx hb hts hiX6 hown hK hP 0 rfl rfl 13 (by decide) kf31 (fun _ h9 => h9) rfl dX6_image_26 ?_
  refine lv_bipush (v := 12) hx hb dX6_image_29 (by decide) ?_
  refine lv_iload_n hx hb dX6_image_31 rfl (lv_at hl 0 rfl) ?_
  refine lv_iadd hx hb dX6_image_32 ?_
  refine lv_topi (fun v_43 ev_43 => ?_)
  have ev_43 : v_43 = 22 := ev_43.trans (by decide)
  subst ev_43
  refine lv_aload_n hx hb dX6_image_33 rfl (lv_at hl 1 rfl) ?_
  refine va_get (D := G.1) (ci := 6) (v := .ref st) (C := RX6) (T := TX6) (N := 42) hx hb hts hiX6 hown hK hP 0 rfl rfl 3 (by decide) kf16 (fun _ h9 => h9) rfl dX6_image_34 ?_
  refine lv_iload_n hx hb dX6_image_37 rfl (lv_at hl 0 rfl) ?_
  refine va_iald (D := G.1) hx hb hK hP 1 0 rfl rfl (i := 10) (gIn (by decide)) dX6_image_38 ?_
  refine lv_topi (fun v_44 ev_44 => ?_)
  have ev_44 : v_44 = 0 := ev_44.trans (by decide)
  subst ev_44
  refine va_iast (D := G.1) hx hb hK hP hD hS 3 0 rfl rfl (i := 22) (x := 0) (gIn (by decide)) dX6_image_39 (fun H locs hP hD hS => ?_)
  have hP : va_P G.1 vwCl [(h0, .inr (6, [.int 0, .ref kd, .ref mo, .ref st, .int 0, .ref ro, .ref tp, .int 0, .ref cd, .ref sr, .int 1, .int 0, .int 1, .ref ir, .ref ih, .ref ss, .ref sq, .ref ce, .ref lw, .int 40, .int 40, .int 0, .int 0, .ref wo, .ref he, .int 0, .int 0, .int 5, .ref sk, .ref na, .ref kp, .int 0, .int 0, .int 0, .int 0, .ref gb, .ref go, .ref fa, .ref ga, .int 0, .int 0, .ref vo])), (st, .inl (G.2.1, 12, .inl (fun _ => 0))), (ro, .inl (G.2.1, 12, .inl (fun _ => 0))), (ir, .inl (G.2.1, 24, .inl (upd (upd (upd (upd (upd (upd (upd (upd (upd (upd (upd (upd (upd (upd (upd (upd (upd (upd (upd (upd (upd (upd (fun _ => 0) 0 0) 12 0) 1 0) 13 0) 2 0) 14 0) 3 0) 15 0) 4 0) 16 0) 5 0) 17 0) 6 0) 18 0) 7 0) 19 0) 8 0) 20 0) 9 0) 21 0) 10 0) 22 0))), (ih, .inl (G.2.1, 3, .inl (fun _ => 0)))] H := hP
  have hD : va_D A [(h0, .inr (6, [.int 0, .ref kd, .ref mo, .ref st, .int 0, .ref ro, .ref tp, .int 0, .ref cd, .ref sr, .int 1, .int 0, .int 1, .ref ir, .ref ih, .ref ss, .ref sq, .ref ce, .ref lw, .int 40, .int 40, .int 0, .int 0, .ref wo, .ref he, .int 0, .int 0, .int 5, .ref sk, .ref na, .ref kp, .int 0, .int 0, .int 0, .int 0, .ref gb, .ref go, .ref fa, .ref ga, .int 0, .int 0, .ref vo])), (st, .inl (G.2.1, 12, .inl (fun _ => 0))), (ro, .inl (G.2.1, 12, .inl (fun _ => 0))), (ir, .inl (G.2.1, 24, .inl (upd (upd (upd (upd (upd (upd (upd (upd (upd (upd (upd (upd (upd (upd (upd (upd (upd (upd (upd (upd (upd (upd (fun _ => 0) 0 0) 12 0) 1 0) 13 0) 2 0) 14 0) 3 0) 15 0) 4 0) 16 0) 5 0) 17 0) 6 0) 18 0) 7 0) 19 0) 8 0) 20 0) 9 0) 21 0) 10 0) 22 0))), (ih, .inl (G.2.1, 3, .inl (fun _ => 0)))] := hD
  refine lv_iinc (v := 11) (lv' := [(1, .int 11), (0, .ref h0)]) hx hb dX6_image_40 hl (k := 0) rfl (by decide) (by decide) rfl (fun ls hl => ?_)
  refine lv_goto (tgt := 7) hx hb dX6_image_43 (by decide) ?_
  refine lv_iload_n hx hb dX6_image_7 rfl (lv_at hl 0 rfl) ?_
  refine lv_bipush (v := 12) hx hb dX6_image_8 (by decide) ?_
  refine lv_icmp_ge (tgt := 46) hx hb dX6_image_10 (by decide) (fun c_45 => ?_) (fun c_45 => ?_)
  · exact absurd c_45 (by decide)
  refine lv_aload_n hx hb dX6_image_13 rfl (lv_at hl 1 rfl) ?_
  refine va_get (D := G.1) (ci := 6) (v := .ref ir) (C := RX6) (T := TX6) (N := 42) hx hb hts hiX6 hown hK hP 0 rfl rfl 13 (by decide) kf31 (fun _ h9 => h9) rfl dX6_image_14 ?_
  refine lv_iload_n hx hb dX6_image_17 rfl (lv_at hl 0 rfl) ?_
  refine lv_aload_n hx hb dX6_image_18 rfl (lv_at hl 1 rfl) ?_
  refine va_get (D := G.1) (ci := 6) (v := .ref ro) (C := RX6) (T := TX6) (N := 42) hx hb hts hiX6 hown hK hP 0 rfl rfl 5 (by decide) kf19 (fun _ h9 => h9) rfl dX6_image_19 ?_
  refine lv_iload_n hx hb dX6_image_22 rfl (lv_at hl 0 rfl) ?_
  refine va_iald (D := G.1) hx hb hK hP 2 0 rfl rfl (i := 11) (gIn (by decide)) dX6_image_23 ?_
  refine lv_topi (fun v_46 ev_46 => ?_)
  have ev_46 : v_46 = 0 := ev_46.trans (by decide)
  subst ev_46
  refine va_iast (D := G.1) hx hb hK hP hD hS 3 0 rfl rfl (i := 11) (x := 0) (gIn (by decide)) dX6_image_24 (fun H locs hP hD hS => ?_)
  have hP : va_P G.1 vwCl [(h0, .inr (6, [.int 0, .ref kd, .ref mo, .ref st, .int 0, .ref ro, .ref tp, .int 0, .ref cd, .ref sr, .int 1, .int 0, .int 1, .ref ir, .ref ih, .ref ss, .ref sq, .ref ce, .ref lw, .int 40, .int 40, .int 0, .int 0, .ref wo, .ref he, .int 0, .int 0, .int 5, .ref sk, .ref na, .ref kp, .int 0, .int 0, .int 0, .int 0, .ref gb, .ref go, .ref fa, .ref ga, .int 0, .int 0, .ref vo])), (st, .inl (G.2.1, 12, .inl (fun _ => 0))), (ro, .inl (G.2.1, 12, .inl (fun _ => 0))), (ir, .inl (G.2.1, 24, .inl (upd (upd (upd (upd (upd (upd (upd (upd (upd (upd (upd (upd (upd (upd (upd (upd (upd (upd (upd (upd (upd (upd (upd (fun _ => 0) 0 0) 12 0) 1 0) 13 0) 2 0) 14 0) 3 0) 15 0) 4 0) 16 0) 5 0) 17 0) 6 0) 18 0) 7 0) 19 0) 8 0) 20 0) 9 0) 21 0) 10 0) 22 0) 11 0))), (ih, .inl (G.2.1, 3, .inl (fun _ => 0)))] H := hP
  have hD : va_D A [(h0, .inr (6, [.int 0, .ref kd, .ref mo, .ref st, .int 0, .ref ro, .ref tp, .int 0, .ref cd, .ref sr, .int 1, .int 0, .int 1, .ref ir, .ref ih, .ref ss, .ref sq, .ref ce, .ref lw, .int 40, .int 40, .int 0, .int 0, .ref wo, .ref he, .int 0, .int 0, .int 5, .ref sk, .ref na, .ref kp, .int 0, .int 0, .int 0, .int 0, .ref gb, .ref go, .ref fa, .ref ga, .int 0, .int 0, .ref vo])), (st, .inl (G.2.1, 12, .inl (fun _ => 0))), (ro, .inl (G.2.1, 12, .inl (fun _ => 0))), (ir, .inl (G.2.1, 24, .inl (upd (upd (upd (upd (upd (upd (upd (upd (upd (upd (upd (upd (upd (upd (upd (upd (upd (upd (upd (upd (upd (upd (upd (fun _ => 0) 0 0) 12 0) 1 0) 13 0) 2 0) 14 0) 3 0) 15 0) 4 0) 16 0) 5 0) 17 0) 6 0) 18 0) 7 0) 19 0) 8 0) 20 0) 9 0) 21 0) 10 0) 22 0) 11 0))), (ih, .inl (G.2.1, 3, .inl (fun _ => 0)))] := hD
  refine lv_aload_n hx hb dX6_image_25 rfl (lv_at hl 1 rfl) ?_
  refine va_get (D := G.1) (ci := 6) (v := .ref ir) (C := RX6) (T := TX6) (N := 42) hx hb hts hiX6 hown hK hP 0 rfl rfl 13 (by decide) kf31 (fun _ h9 => h9) rfl dX6_image_26 ?_
  refine lv_bipush (v := 12) hx hb dX6_image_29 (by decide) ?_
  refine lv_iload_n hx hb dX6_image_31 rfl (lv_at hl 0 rfl) ?_
  refine lv_iadd hx hb dX6_image_32 ?_
  refine lv_topi (fun v_47 ev_47 => ?_)
  have ev_47 : v_47 = 23 := ev_47.trans (by decide)
  subst ev_47
  refine lv_aload_n hx hb dX6_image_33 rfl (lv_at hl 1 rfl) ?_
  refine va_get (D := G.1) (ci := 6) (v := .ref st) (C := RX6) (T := TX6) (N := 42) hx hb hts hiX6 hown hK hP 0 rfl rfl 3 (by decide) kf16 (fun _ h9 => h9) rfl dX6_image_34 ?_
  refine lv_iload_n hx hb dX6_image_37 rfl (lv_at hl 0 rfl) ?_
  refine va_iald (D := G.1) hx hb hK hP 1 0 rfl rfl (i := 11) (gIn (by decide)) dX6_image_38 ?_
  refine lv_topi (fun v_48 ev_48 => ?_)
  have ev_48 : v_48 = 0 := ev_48.trans (by decide)
  subst ev_48
  refine va_iast (D := G.1) hx hb hK hP hD hS 3 0 rfl rfl (i := 23) (x := 0) (gIn (by decide)) dX6_image_39 (fun H locs hP hD hS => ?_)
  have hP : va_P G.1 vwCl [(h0, .inr (6, [.int 0, .ref kd, .ref mo, .ref st, .int 0, .ref ro, .ref tp, .int 0, .ref cd, .ref sr, .int 1, .int 0, .int 1, .ref ir, .ref ih, .ref ss, .ref sq, .ref ce, .ref lw, .int 40, .int 40, .int 0, .int 0, .ref wo, .ref he, .int 0, .int 0, .int 5, .ref sk, .ref na, .ref kp, .int 0, .int 0, .int 0, .int 0, .ref gb, .ref go, .ref fa, .ref ga, .int 0, .int 0, .ref vo])), (st, .inl (G.2.1, 12, .inl (fun _ => 0))), (ro, .inl (G.2.1, 12, .inl (fun _ => 0))), (ir, .inl (G.2.1, 24, .inl (upd (upd (upd (upd (upd (upd (upd (upd (upd (upd (upd (upd (upd (upd (upd (upd (upd (upd (upd (upd (upd (upd (upd (upd (fun _ => 0) 0 0) 12 0) 1 0) 13 0) 2 0) 14 0) 3 0) 15 0) 4 0) 16 0) 5 0) 17 0) 6 0) 18 0) 7 0) 19 0) 8 0) 20 0) 9 0) 21 0) 10 0) 22 0) 11 0) 23 0))), (ih, .inl (G.2.1, 3, .inl (fun _ => 0)))] H := hP
  have hD : va_D A [(h0, .inr (6, [.int 0, .ref kd, .ref mo, .ref st, .int 0, .ref ro, .ref tp, .int 0, .ref cd, .ref sr, .int 1, .int 0, .int 1, .ref ir, .ref ih, .ref ss, .ref sq, .ref ce, .ref lw, .int 40, .int 40, .int 0, .int 0, .ref wo, .ref he, .int 0, .int 0, .int 5, .ref sk, .ref na, .ref kp, .int 0, .int 0, .int 0, .int 0, .ref gb, .ref go, .ref fa, .ref ga, .int 0, .int 0, .ref vo])), (st, .inl (G.2.1, 12, .inl (fun _ => 0))), (ro, .inl (G.2.1, 12, .inl (fun _ => 0))), (ir, .inl (G.2.1, 24, .inl (upd (upd (upd (upd (upd (upd (upd (upd (upd (upd (upd (upd (upd (upd (upd (upd (upd (upd (upd (upd (upd (upd (upd (upd (fun _ => 0) 0 0) 12 0) 1 0) 13 0) 2 0) 14 0) 3 0) 15 0) 4 0) 16 0) 5 0) 17 0) 6 0) 18 0) 7 0) 19 0) 8 0) 20 0) 9 0) 21 0) 10 0) 22 0) 11 0) 23 0))), (ih, .inl (G.2.1, 3, .inl (fun _ => 0)))] := hD
  refine lv_iinc (v := 12) (lv' := [(1, .int 12), (0, .ref h0)]) hx hb dX6_image_40 hl (k := 0) rfl (by decide) (by decide) rfl (fun ls hl => ?_)
  refine lv_goto (tgt := 7) hx hb dX6_image_43 (by decide) ?_
  refine lv_iload_n hx hb dX6_image_7 rfl (lv_at hl 0 rfl) ?_
  refine lv_bipush (v := 12) hx hb dX6_image_8 (by decide) ?_
  refine lv_icmp_ge (tgt := 46) hx hb dX6_image_10 (by decide) (fun c_49 => ?_) (fun c_49 => ?_)
  rotate_left
  · exact absurd (by decide) c_49
  refine lv_aload_n hx hb dX6_image_46 rfl (lv_at hl 1 rfl) ?_
  refine va_get (D := G.1) (ci := 6) (v := .ref ih) (C := RX6) (T := TX6) (N := 42) hx hb hts hiX6 hown hK hP 0 rfl rfl 14 (by decide) kf34 (fun _ h9 => h9) rfl dX6_image_47 ?_
  refine lv_iconst (v := 0) hx hb dX6_image_50 (by decide) ?_
  refine lv_aload_n hx hb dX6_image_51 rfl (lv_at hl 1 rfl) ?_
  refine va_get (D := G.1) (ci := 6) (v := .int 0) (C := RX6) (T := TX6) (N := 42) hx hb hts hiX6 hown hK hP 0 rfl rfl 0 (by decide) kf88 (fun _ h9 => h9) rfl dX6_image_52 ?_
  refine va_iast (D := G.1) hx hb hK hP hD hS 4 0 rfl rfl (i := 0) (x := 0) (gIn (by decide)) dX6_image_55 (fun H locs hP hD hS => ?_)
  have hP : va_P G.1 vwCl [(h0, .inr (6, [.int 0, .ref kd, .ref mo, .ref st, .int 0, .ref ro, .ref tp, .int 0, .ref cd, .ref sr, .int 1, .int 0, .int 1, .ref ir, .ref ih, .ref ss, .ref sq, .ref ce, .ref lw, .int 40, .int 40, .int 0, .int 0, .ref wo, .ref he, .int 0, .int 0, .int 5, .ref sk, .ref na, .ref kp, .int 0, .int 0, .int 0, .int 0, .ref gb, .ref go, .ref fa, .ref ga, .int 0, .int 0, .ref vo])), (st, .inl (G.2.1, 12, .inl (fun _ => 0))), (ro, .inl (G.2.1, 12, .inl (fun _ => 0))), (ir, .inl (G.2.1, 24, .inl (upd (upd (upd (upd (upd (upd (upd (upd (upd (upd (upd (upd (upd (upd (upd (upd (upd (upd (upd (upd (upd (upd (upd (upd (fun _ => 0) 0 0) 12 0) 1 0) 13 0) 2 0) 14 0) 3 0) 15 0) 4 0) 16 0) 5 0) 17 0) 6 0) 18 0) 7 0) 19 0) 8 0) 20 0) 9 0) 21 0) 10 0) 22 0) 11 0) 23 0))), (ih, .inl (G.2.1, 3, .inl (upd (fun _ => 0) 0 0)))] H := hP
  have hD : va_D A [(h0, .inr (6, [.int 0, .ref kd, .ref mo, .ref st, .int 0, .ref ro, .ref tp, .int 0, .ref cd, .ref sr, .int 1, .int 0, .int 1, .ref ir, .ref ih, .ref ss, .ref sq, .ref ce, .ref lw, .int 40, .int 40, .int 0, .int 0, .ref wo, .ref he, .int 0, .int 0, .int 5, .ref sk, .ref na, .ref kp, .int 0, .int 0, .int 0, .int 0, .ref gb, .ref go, .ref fa, .ref ga, .int 0, .int 0, .ref vo])), (st, .inl (G.2.1, 12, .inl (fun _ => 0))), (ro, .inl (G.2.1, 12, .inl (fun _ => 0))), (ir, .inl (G.2.1, 24, .inl (upd (upd (upd (upd (upd (upd (upd (upd (upd (upd (upd (upd (upd (upd (upd (upd (upd (upd (upd (upd (upd (upd (upd (upd (fun _ => 0) 0 0) 12 0) 1 0) 13 0) 2 0) 14 0) 3 0) 15 0) 4 0) 16 0) 5 0) 17 0) 6 0) 18 0) 7 0) 19 0) 8 0) 20 0) 9 0) 21 0) 10 0) 22 0) 11 0) 23 0))), (ih, .inl (G.2.1, 3, .inl (upd (fun _ => 0) 0 0)))] := hD
  refine lv_aload_n hx hb dX6_image_56 rfl (lv_at hl 1 rfl) ?_
  refine va_get (D := G.1) (ci := 6) (v := .ref ih) (C := RX6) (T := TX6) (N := 42) hx hb hts hiX6 hown hK hP 0 rfl rfl 14 (by decide) kf34 (fun _ h9 => h9) rfl dX6_image_57 ?_
  refine lv_iconst (v := 1) hx hb dX6_image_60 (by decide) ?_
  refine lv_aload_n hx hb dX6_image_61 rfl (lv_at hl 1 rfl) ?_
  refine va_get (D := G.1) (ci := 6) (v := .int 0) (C := RX6) (T := TX6) (N := 42) hx hb hts hiX6 hown hK hP 0 rfl rfl 4 (by decide) kf95 (fun _ h9 => h9) rfl dX6_image_62 ?_
  refine va_iast (D := G.1) hx hb hK hP hD hS 4 0 rfl rfl (i := 1) (x := 0) (gIn (by decide)) dX6_image_65 (fun H locs hP hD hS => ?_)
  have hP : va_P G.1 vwCl [(h0, .inr (6, [.int 0, .ref kd, .ref mo, .ref st, .int 0, .ref ro, .ref tp, .int 0, .ref cd, .ref sr, .int 1, .int 0, .int 1, .ref ir, .ref ih, .ref ss, .ref sq, .ref ce, .ref lw, .int 40, .int 40, .int 0, .int 0, .ref wo, .ref he, .int 0, .int 0, .int 5, .ref sk, .ref na, .ref kp, .int 0, .int 0, .int 0, .int 0, .ref gb, .ref go, .ref fa, .ref ga, .int 0, .int 0, .ref vo])), (st, .inl (G.2.1, 12, .inl (fun _ => 0))), (ro, .inl (G.2.1, 12, .inl (fun _ => 0))), (ir, .inl (G.2.1, 24, .inl (upd (upd (upd (upd (upd (upd (upd (upd (upd (upd (upd (upd (upd (upd (upd (upd (upd (upd (upd (upd (upd (upd (upd (upd (fun _ => 0) 0 0) 12 0) 1 0) 13 0) 2 0) 14 0) 3 0) 15 0) 4 0) 16 0) 5 0) 17 0) 6 0) 18 0) 7 0) 19 0) 8 0) 20 0) 9 0) 21 0) 10 0) 22 0) 11 0) 23 0))), (ih, .inl (G.2.1, 3, .inl (upd (upd (fun _ => 0) 0 0) 1 0)))] H := hP
  have hD : va_D A [(h0, .inr (6, [.int 0, .ref kd, .ref mo, .ref st, .int 0, .ref ro, .ref tp, .int 0, .ref cd, .ref sr, .int 1, .int 0, .int 1, .ref ir, .ref ih, .ref ss, .ref sq, .ref ce, .ref lw, .int 40, .int 40, .int 0, .int 0, .ref wo, .ref he, .int 0, .int 0, .int 5, .ref sk, .ref na, .ref kp, .int 0, .int 0, .int 0, .int 0, .ref gb, .ref go, .ref fa, .ref ga, .int 0, .int 0, .ref vo])), (st, .inl (G.2.1, 12, .inl (fun _ => 0))), (ro, .inl (G.2.1, 12, .inl (fun _ => 0))), (ir, .inl (G.2.1, 24, .inl (upd (upd (upd (upd (upd (upd (upd (upd (upd (upd (upd (upd (upd (upd (upd (upd (upd (upd (upd (upd (upd (upd (upd (upd (fun _ => 0) 0 0) 12 0) 1 0) 13 0) 2 0) 14 0) 3 0) 15 0) 4 0) 16 0) 5 0) 17 0) 6 0) 18 0) 7 0) 19 0) 8 0) 20 0) 9 0) 21 0) 10 0) 22 0) 11 0) 23 0))), (ih, .inl (G.2.1, 3, .inl (upd (upd (fun _ => 0) 0 0) 1 0)))] := hD
  refine lv_aload_n hx hb dX6_image_66 rfl (lv_at hl 1 rfl) ?_
  refine va_get (D := G.1) (ci := 6) (v := .ref ih) (C := RX6) (T := TX6) (N := 42) hx hb hts hiX6 hown hK hP 0 rfl rfl 14 (by decide) kf34 (fun _ h9 => h9) rfl dX6_image_67 ?_
  refine lv_iconst (v := 2) hx hb dX6_image_70 (by decide) ?_
  refine lv_aload_n hx hb dX6_image_71 rfl (lv_at hl 1 rfl) ?_
  refine va_get (D := G.1) (ci := 6) (v := .int 0) (C := RX6) (T := TX6) (N := 42) hx hb hts hiX6 hown hK hP 0 rfl rfl 11 (by decide) kf101 (fun _ h9 => h9) rfl dX6_image_72 ?_
  refine va_iast (D := G.1) hx hb hK hP hD hS 4 0 rfl rfl (i := 2) (x := 0) (gIn (by decide)) dX6_image_75 (fun H locs hP hD hS => ?_)
  have hP : va_P G.1 vwCl [(h0, .inr (6, [.int 0, .ref kd, .ref mo, .ref st, .int 0, .ref ro, .ref tp, .int 0, .ref cd, .ref sr, .int 1, .int 0, .int 1, .ref ir, .ref ih, .ref ss, .ref sq, .ref ce, .ref lw, .int 40, .int 40, .int 0, .int 0, .ref wo, .ref he, .int 0, .int 0, .int 5, .ref sk, .ref na, .ref kp, .int 0, .int 0, .int 0, .int 0, .ref gb, .ref go, .ref fa, .ref ga, .int 0, .int 0, .ref vo])), (st, .inl (G.2.1, 12, .inl (fun _ => 0))), (ro, .inl (G.2.1, 12, .inl (fun _ => 0))), (ir, .inl (G.2.1, 24, .inl (upd (upd (upd (upd (upd (upd (upd (upd (upd (upd (upd (upd (upd (upd (upd (upd (upd (upd (upd (upd (upd (upd (upd (upd (fun _ => 0) 0 0) 12 0) 1 0) 13 0) 2 0) 14 0) 3 0) 15 0) 4 0) 16 0) 5 0) 17 0) 6 0) 18 0) 7 0) 19 0) 8 0) 20 0) 9 0) 21 0) 10 0) 22 0) 11 0) 23 0))), (ih, .inl (G.2.1, 3, .inl (upd (upd (upd (fun _ => 0) 0 0) 1 0) 2 0)))] H := hP
  have hD : va_D A [(h0, .inr (6, [.int 0, .ref kd, .ref mo, .ref st, .int 0, .ref ro, .ref tp, .int 0, .ref cd, .ref sr, .int 1, .int 0, .int 1, .ref ir, .ref ih, .ref ss, .ref sq, .ref ce, .ref lw, .int 40, .int 40, .int 0, .int 0, .ref wo, .ref he, .int 0, .int 0, .int 5, .ref sk, .ref na, .ref kp, .int 0, .int 0, .int 0, .int 0, .ref gb, .ref go, .ref fa, .ref ga, .int 0, .int 0, .ref vo])), (st, .inl (G.2.1, 12, .inl (fun _ => 0))), (ro, .inl (G.2.1, 12, .inl (fun _ => 0))), (ir, .inl (G.2.1, 24, .inl (upd (upd (upd (upd (upd (upd (upd (upd (upd (upd (upd (upd (upd (upd (upd (upd (upd (upd (upd (upd (upd (upd (upd (upd (fun _ => 0) 0 0) 12 0) 1 0) 13 0) 2 0) 14 0) 3 0) 15 0) 4 0) 16 0) 5 0) 17 0) 6 0) 18 0) 7 0) 19 0) 8 0) 20 0) 9 0) 21 0) 10 0) 22 0) 11 0) 23 0))), (ih, .inl (G.2.1, 3, .inl (upd (upd (upd (fun _ => 0) 0 0) 1 0) 2 0)))] := hD
  refine lv_aload_n hx hb dX6_image_76 rfl (lv_at hl 1 rfl) ?_
  refine va_get (D := G.1) (ci := 6) (v := .int 0) (C := RX6) (T := TX6) (N := 42) hx hb hts hiX6 hown hK hP 0 rfl rfl 0 (by decide) kf88 (fun _ h9 => h9) rfl dX6_image_77 ?_
  have hpost : (fun (r : Int32) (u : Unit) => match u with | _ => r = 0) 0 () := pp_X6_image_0_1  
  exact W.iret (v := 0) hx hb hr (fun t ht hW => ⟨⟨0, (), rfl, hpost, trivial⟩, hS.F ht⟩) hS.2.2 dX6_image_80
theorem pp_X6_cell_0_1 (v0 : Int32) (v1 : Int32) (v2 : Int32) (p_4 : 0 ≤ v0 ∧ v0 ≤ 3) : ((-11) : Int32) = (if 0 ≤ v0 ∧ v0 ≤ 3 then -11 else -2) := by
  first
    | rfl
    | exact bz_pos (by (first | omega | (simp only [Int32.lt_iff_toInt_lt, Int32.le_iff_toInt_le, ← Int32.toInt_inj, Int32.reduceToInt] at * <;> omega)))
    | exact bz_neg (by (first | omega | (simp only [Int32.lt_iff_toInt_lt, Int32.le_iff_toInt_le, ← Int32.toInt_inj, Int32.reduceToInt] at * <;> omega)))
    | ((repeat' split) <;> first | rfl | assumption | (symm; assumption) | (exfalso; (first | omega | (simp only [Int32.lt_iff_toInt_lt, Int32.le_iff_toInt_le, ← Int32.toInt_inj, Int32.reduceToInt] at * <;> omega))))
theorem pp_X6_cell_0_2 (v0 : Int32) (v1 : Int32) (v2 : Int32) (n_5 : ¬ (0 ≤ v0 ∧ v0 ≤ 3)) : ((-2) : Int32) = (if 0 ≤ v0 ∧ v0 ≤ 3 then -11 else -2) := by
  first
    | rfl
    | exact bz_pos (by (first | omega | (simp only [Int32.lt_iff_toInt_lt, Int32.le_iff_toInt_le, ← Int32.toInt_inj, Int32.reduceToInt] at * <;> omega)))
    | exact bz_neg (by (first | omega | (simp only [Int32.lt_iff_toInt_lt, Int32.le_iff_toInt_le, ← Int32.toInt_inj, Int32.reduceToInt] at * <;> omega)))
    | ((repeat' split) <;> first | rfl | assumption | (symm; assumption) | (exfalso; (first | omega | (simp only [Int32.lt_iff_toInt_lt, Int32.le_iff_toInt_le, ← Int32.toInt_inj, Int32.reduceToInt] at * <;> omega))))
abbrev q_X6_cell_0 (G : gG) (h0 kd mo st ro tp cd sr ir ih ss sq ce lw wo he sk na kp gb go fa ga vo : Nat) (v0 : Int32) (v1 : Int32) (v2 : Int32) (A : Nat → Prop) : Array Value → State → Outcome → State → Prop := va_Qi (fun (r : Int32) (u : Unit) => match u with | _ => r = (if 0 ≤ v0 ∧ v0 ≤ 3 then -11 else -2)) (fun (u : Unit) t => match u with | _ => True) A
set_option maxHeartbeats 4000000 in
set_option maxRecDepth 100000 in
theorem c_X6_cell_0 (l : Launch) (G : gG) (h0 kd mo st ro tp cd sr ir ih ss sq ce lw wo he sk na kp gb go fa ga vo : Nat) (v0 : Int32) (v1 : Int32) (v2 : Int32) (sz : Nat) : Met l yX6_cell wsX6_cell ({ frames := 1, cells := 0, slots := 0, locals := 22 }) (gPre G [.ref h0, .int v0, .int v1, .int v2] [(h0, .inr (6, [.int 0, .ref kd, .ref mo, .ref st, .int 0, .ref ro, .ref tp, .int 0, .ref cd, .ref sr, .int 1, .int 0, .int 0, .ref ir, .ref ih, .ref ss, .ref sq, .ref ce, .ref lw, .int 40, .int 40, .int 0, .int 0, .ref wo, .ref he, .int 0, .int 0, .int 5, .ref sk, .ref na, .ref kp, .int 0, .int 0, .int 0, .int 0, .ref gb, .ref go, .ref fa, .ref ga, .int 0, .int 0, .ref vo])), (ss, .inl (G.2.1, 4, .inl (upd (upd (upd (upd (fun _ => 0) 0 (-1)) 1 (-1)) 2 (-1)) 3 (-1))))] sz) (q_X6_cell_0 G h0 kd mo st ro tp cd sr ir ih ss sq ce lw wo he sk na kp gb go fa ga vo v0 v1 v2 (va_A [(h0, .inr (6, [.int 0, .ref kd, .ref mo, .ref st, .int 0, .ref ro, .ref tp, .int 0, .ref cd, .ref sr, .int 1, .int 0, .int 0, .ref ir, .ref ih, .ref ss, .ref sq, .ref ce, .ref lw, .int 40, .int 40, .int 0, .int 0, .ref wo, .ref he, .int 0, .int 0, .int 5, .ref sk, .ref na, .ref kp, .int 0, .int 0, .int 0, .int 0, .ref gb, .ref go, .ref fa, .ref ga, .int 0, .int 0, .ref vo])), (ss, .inl (G.2.1, 4, .inl (upd (upd (upd (upd (fun _ => 0) 0 (-1)) 1 (-1)) 2 (-1)) 3 (-1))))] sz)) 0 0 (va_A [(h0, .inr (6, [.int 0, .ref kd, .ref mo, .ref st, .int 0, .ref ro, .ref tp, .int 0, .ref cd, .ref sr, .int 1, .int 0, .int 0, .ref ir, .ref ih, .ref ss, .ref sq, .ref ce, .ref lw, .int 40, .int 40, .int 0, .int 0, .ref wo, .ref he, .int 0, .int 0, .int 5, .ref sk, .ref na, .ref kp, .int 0, .int 0, .int 0, .int 0, .ref gb, .ref go, .ref fa, .ref ga, .int 0, .int 0, .ref vo])), (ss, .inl (G.2.1, 4, .inl (upd (upd (upd (upd (fun _ => 0) 0 (-1)) 1 (-1)) 2 (-1)) 3 (-1))))] sz) := by
  refine Met.ofW (cc := cX6_cell) (maxL := 4) (ret := (some .int)) (by decide) rfl ?_
  intro p e s m args below meth c s₁ B hml hv
  obtain ⟨rfl, hsz, hP, hK, hD0⟩ := hv
  have hx := B.exec
  have hb := B.bytes
  have hr := B.returns
  have hts := atoms_spec (ws := wsX6_cell) B.pre
  have hown : s.vm.findClass RX6 = some m.cls := findClass_of_methodNamed B.named
  have hlocks := B.notSynchronized
  subst hsz
  have hD := hD0.self (sz := s.heap.size)
  generalize hAe : va_A [(h0, .inr (6, [.int 0, .ref kd, .ref mo, .ref st, .int 0, .ref ro, .ref tp, .int 0, .ref cd, .ref sr, .int 1, .int 0, .int 0, .ref ir, .ref ih, .ref ss, .ref sq, .ref ce, .ref lw, .int 40, .int 40, .int 0, .int 0, .ref wo, .ref he, .int 0, .int 0, .int 5, .ref sk, .ref na, .ref kp, .int 0, .int 0, .int 0, .int 0, .ref gb, .ref go, .ref fa, .ref ga, .int 0, .int 0, .ref vo])), (ss, .inl (G.2.1, 4, .inl (upd (upd (upd (upd (fun _ => 0) 0 (-1)) 1 (-1)) 2 (-1)) 3 (-1))))] s.heap.size = A at hD ⊢
  have hA : ∀ q : Nat, s.heap.size ≤ q → A q := fun q h => by rw [← hAe]; exact Or.inr h
  have hS : va_S A s.heap s.heap [] := va_S.rf
  have hP : va_P G.1 vwCl [(h0, .inr (6, [.int 0, .ref kd, .ref mo, .ref st, .int 0, .ref ro, .ref tp, .int 0, .ref cd, .ref sr, .int 1, .int 0, .int 0, .ref ir, .ref ih, .ref ss, .ref sq, .ref ce, .ref lw, .int 40, .int 40, .int 0, .int 0, .ref wo, .ref he, .int 0, .int 0, .int 5, .ref sk, .ref na, .ref kp, .int 0, .int 0, .int 0, .int 0, .ref gb, .ref go, .ref fa, .ref ga, .int 0, .int 0, .ref vo])), (ss, .inl (G.2.1, 4, .inl (upd (upd (upd (upd (fun _ => 0) 0 (-1)) 1 (-1)) 2 (-1)) 3 (-1))))] s.heap := hP
  have hD : va_D A [(h0, .inr (6, [.int 0, .ref kd, .ref mo, .ref st, .int 0, .ref ro, .ref tp, .int 0, .ref cd, .ref sr, .int 1, .int 0, .int 0, .ref ir, .ref ih, .ref ss, .ref sq, .ref ce, .ref lw, .int 40, .int 40, .int 0, .int 0, .ref wo, .ref he, .int 0, .int 0, .int 5, .ref sk, .ref na, .ref kp, .int 0, .int 0, .int 0, .int 0, .ref gb, .ref go, .ref fa, .ref ga, .int 0, .int 0, .ref vo])), (ss, .inl (G.2.1, 4, .inl (upd (upd (upd (upd (fun _ => 0) 0 (-1)) 1 (-1)) 2 (-1)) 3 (-1))))] := hD
  have hl := lv_entry ([.ref h0, .int v0, .int v1, .int v2]) (n := 4) (Nat.le_of_ble_eq_true rfl)
  rw [lg_entry_eq]
  generalize (lg_sl ([.ref h0, .int v0, .int v1, .int v2]) ++ List.replicate (4 - (lg_sl ([.ref h0, .int v0, .int v1, .int v2])).length) Slot.unset).toArray = ls at hl ⊢
  have hl : lv_has ls 4 [(0, .ref h0), (1, .int v0), (2, .int v1), (3, .int v2)] := hl
  have kf37 := hts (.fieldLink RX6 37 "PebbleInShoeModel" "sheetSort" "[I") (by decide +kernel)
  have hiX6 := (by decide +kernel : ∀ w ∈ wsX60, w ∈ wsX6_cell)
  refine lv_iload_n hx hb dX6_cell_0 rfl (lv_at hl 1 rfl) ?_
  refine lv_iconst (v := 0) hx hb dX6_cell_1 (by decide) ?_
  refine lv_iconst (v := 3) hx hb dX6_cell_2 (by decide) ?_
  have hPc : va_P G.1 vwCl [] s.heap := hP.sub [] rfl
  have hDc : va_D A [] := hD.sub [] (by decide) rfl
  have hFc := va_free (wc := []) hD hS hA [] rfl
  refine va_calli (va_runS (As := [.int v0, .int 0, .int 3]) (rest := []) ⟨hx, hb, hml, hown, hts⟩ (c_X6_in l G v0 0 3 s.heap.size) (va_cwS 3 hts gX6_cell_X6_in rfl rfl rfl (by decide +kernel) ⟨Nat.le_of_ble_eq_true rfl, Nat.le_of_ble_eq_true rfl⟩) ⟨gPre_blind, fun U hU hW => gPre_of hU hW hK hPc hDc⟩ rfl rfl hl.1 rfl (lv_room (Nat.le_of_ble_eq_true rfl)) dX6_cell_3 ⟨Nat.le_of_ble_eq_true rfl, Nat.le_of_ble_eq_true rfl⟩) hS (fun q _ h => hFc q h) hFc (fun r_1 u t H locs ht hvm w_2 hB hz1 hk1 hS => ?_)
  obtain ⟨hP1, hK1, hD1⟩ := hB
  rw [ht] at hP1
  have hP1 : va_P G.1 vwCl [] H := hP1
  have hD1 : va_D (va_A [] s.heap.size) [] := hD1
  have w_2 : r_1 = bz (decide (0 ≤ v0 ∧ v0 ≤ 3)) := w_2
  obtain ⟨hP, hD⟩ := va_join (wr := [(h0, .inr (6, [.int 0, .ref kd, .ref mo, .ref st, .int 0, .ref ro, .ref tp, .int 0, .ref cd, .ref sr, .int 1, .int 0, .int 0, .ref ir, .ref ih, .ref ss, .ref sq, .ref ce, .ref lw, .int 40, .int 40, .int 0, .int 0, .ref wo, .ref he, .int 0, .int 0, .int 5, .ref sk, .ref na, .ref kp, .int 0, .int 0, .int 0, .int 0, .ref gb, .ref go, .ref fa, .ref ga, .int 0, .int 0, .ref vo])), (ss, .inl (G.2.1, 4, .inl (upd (upd (upd (upd (fun _ => 0) 0 (-1)) 1 (-1)) 2 (-1)) 3 (-1))))]) (w1 := []) hP hD [] [0, 1] rfl rfl (by decide) (by decide) hk1 hFc hP1 hD1
  have hP : va_P G.1 vwCl [(h0, .inr (6, [.int 0, .ref kd, .ref mo, .ref st, .int 0, .ref ro, .ref tp, .int 0, .ref cd, .ref sr, .int 1, .int 0, .int 0, .ref ir, .ref ih, .ref ss, .ref sq, .ref ce, .ref lw, .int 40, .int 40, .int 0, .int 0, .ref wo, .ref he, .int 0, .int 0, .int 5, .ref sk, .ref na, .ref kp, .int 0, .int 0, .int 0, .int 0, .ref gb, .ref go, .ref fa, .ref ga, .int 0, .int 0, .ref vo])), (ss, .inl (G.2.1, 4, .inl (upd (upd (upd (upd (fun _ => 0) 0 (-1)) 1 (-1)) 2 (-1)) 3 (-1))))] H := hP
  have hD : va_D A [(h0, .inr (6, [.int 0, .ref kd, .ref mo, .ref st, .int 0, .ref ro, .ref tp, .int 0, .ref cd, .ref sr, .int 1, .int 0, .int 0, .ref ir, .ref ih, .ref ss, .ref sq, .ref ce, .ref lw, .int 40, .int 40, .int 0, .int 0, .ref wo, .ref he, .int 0, .int 0, .int 5, .ref sk, .ref na, .ref kp, .int 0, .int 0, .int 0, .int 0, .ref gb, .ref go, .ref fa, .ref ga, .int 0, .int 0, .ref vo])), (ss, .inl (G.2.1, 4, .inl (upd (upd (upd (upd (fun _ => 0) 0 (-1)) 1 (-1)) 2 (-1)) 3 (-1))))] := hD
  refine lv_if_ne (tgt := 12) hx hb dX6_cell_6 (by decide) (fun c_3 => ?_) (fun c_3 => ?_)
  · skip
    have p_4 : 0 ≤ v0 ∧ v0 ≤ 3 := of_decide_eq_true (bz_ne w_2 c_3)
    refine lv_aload_n hx hb dX6_cell_12 rfl (lv_at hl 0 rfl) ?_
    refine va_get (D := G.1) (ci := 6) (v := .ref ss) (C := RX6) (T := TX6) (N := 42) hx hb hts hiX6 hown hK hP 0 rfl rfl 15 (by decide) kf37 (fun _ h9 => h9) rfl dX6_cell_13 ?_
    refine lv_iload_n hx hb dX6_cell_16 rfl (lv_at hl 1 rfl) ?_
    refine va_iald (D := G.1) hx hb hK hP 1 0 rfl rfl (i := v0) (g_in3 (by assumption)) dX6_cell_17 ?_
    refine lv_topi (fun v_6 ev_6 => ?_)
    have ev_6 : v_6 = -1 := ev_6.trans (g_m2 (by assumption))
    subst ev_6
    refine lv_iconst (v := -1) hx hb dX6_cell_18 (by decide) ?_
    refine lv_icmp_ne (tgt := 25) hx hb dX6_cell_19 (by decide) (fun c_7 => ?_) (fun c_7 => ?_)
    · exact absurd (by decide) c_7
    refine lv_bipush (v := -11) hx hb dX6_cell_22 (by decide) ?_
    have hpost : (fun (r : Int32) (u : Unit) => match u with | _ => r = (if 0 ≤ v0 ∧ v0 ≤ 3 then -11 else -2)) (-11) () := pp_X6_cell_0_1 v0 v1 v2 p_4
    exact W.iret (v := (-11)) hx hb hr (fun t ht hW => ⟨⟨(-11), (), rfl, hpost, trivial⟩, hS.F ht⟩) hS.2.2 dX6_cell_24
  · skip
    have n_5 : ¬ (0 ≤ v0 ∧ v0 ≤ 3) := of_decide_eq_false (bz_eq w_2 c_3)
    refine lv_bipush (v := -2) hx hb dX6_cell_9 (by decide) ?_
    have hpost : (fun (r : Int32) (u : Unit) => match u with | _ => r = (if 0 ≤ v0 ∧ v0 ≤ 3 then -11 else -2)) (-2) () := pp_X6_cell_0_2 v0 v1 v2 n_5
    exact W.iret (v := (-2)) hx hb hr (fun t ht hW => ⟨⟨(-2), (), rfl, hpost, trivial⟩, hS.F ht⟩) hS.2.2 dX6_cell_11
theorem pp_X6_copy_0_1 (v0 : Int32) (v1 : Int32) (v2 : Int32) (v3 : Int32) (v4 : Int32) (n_5 : ¬ (0 ≤ v0 ∧ v0 ≤ 3)) : ((-2) : Int32) = (if (0 ≤ v0 ∧ v0 ≤ 3) ∧ (0 ≤ v2 ∧ v2 ≤ 3) then -11 else -2) := by
  first
    | rfl
    | exact bz_pos (by (first | omega | (simp only [Int32.lt_iff_toInt_lt, Int32.le_iff_toInt_le, ← Int32.toInt_inj, Int32.reduceToInt] at * <;> omega)))
    | exact bz_neg (by (first | omega | (simp only [Int32.lt_iff_toInt_lt, Int32.le_iff_toInt_le, ← Int32.toInt_inj, Int32.reduceToInt] at * <;> omega)))
    | ((repeat' split) <;> first | rfl | assumption | (symm; assumption) | (exfalso; (first | omega | (simp only [Int32.lt_iff_toInt_lt, Int32.le_iff_toInt_le, ← Int32.toInt_inj, Int32.reduceToInt] at * <;> omega))))
theorem pp_X6_copy_0_2 (v0 : Int32) (v1 : Int32) (v2 : Int32) (v3 : Int32) (v4 : Int32) (p_4 : 0 ≤ v0 ∧ v0 ≤ 3) (p_9 : 0 ≤ v2 ∧ v2 ≤ 3) : ((-11) : Int32) = (if (0 ≤ v0 ∧ v0 ≤ 3) ∧ (0 ≤ v2 ∧ v2 ≤ 3) then -11 else -2) := by
  first
    | rfl
    | exact bz_pos (by (first | omega | (simp only [Int32.lt_iff_toInt_lt, Int32.le_iff_toInt_le, ← Int32.toInt_inj, Int32.reduceToInt] at * <;> omega)))
    | exact bz_neg (by (first | omega | (simp only [Int32.lt_iff_toInt_lt, Int32.le_iff_toInt_le, ← Int32.toInt_inj, Int32.reduceToInt] at * <;> omega)))
    | ((repeat' split) <;> first | rfl | assumption | (symm; assumption) | (exfalso; (first | omega | (simp only [Int32.lt_iff_toInt_lt, Int32.le_iff_toInt_le, ← Int32.toInt_inj, Int32.reduceToInt] at * <;> omega))))
theorem pp_X6_copy_0_3 (v0 : Int32) (v1 : Int32) (v2 : Int32) (v3 : Int32) (v4 : Int32) (p_4 : 0 ≤ v0 ∧ v0 ≤ 3) (n_10 : ¬ (0 ≤ v2 ∧ v2 ≤ 3)) : ((-2) : Int32) = (if (0 ≤ v0 ∧ v0 ≤ 3) ∧ (0 ≤ v2 ∧ v2 ≤ 3) then -11 else -2) := by
  first
    | rfl
    | exact bz_pos (by (first | omega | (simp only [Int32.lt_iff_toInt_lt, Int32.le_iff_toInt_le, ← Int32.toInt_inj, Int32.reduceToInt] at * <;> omega)))
    | exact bz_neg (by (first | omega | (simp only [Int32.lt_iff_toInt_lt, Int32.le_iff_toInt_le, ← Int32.toInt_inj, Int32.reduceToInt] at * <;> omega)))
    | ((repeat' split) <;> first | rfl | assumption | (symm; assumption) | (exfalso; (first | omega | (simp only [Int32.lt_iff_toInt_lt, Int32.le_iff_toInt_le, ← Int32.toInt_inj, Int32.reduceToInt] at * <;> omega))))
abbrev q_X6_copy_0 (G : gG) (h0 kd mo st ro tp cd sr ir ih ss sq ce lw wo he sk na kp gb go fa ga vo : Nat) (v0 : Int32) (v1 : Int32) (v2 : Int32) (v3 : Int32) (v4 : Int32) (A : Nat → Prop) : Array Value → State → Outcome → State → Prop := va_Qi (fun (r : Int32) (u : Unit) => match u with | _ => r = (if (0 ≤ v0 ∧ v0 ≤ 3) ∧ (0 ≤ v2 ∧ v2 ≤ 3) then -11 else -2)) (fun (u : Unit) t => match u with | _ => True) A
set_option maxHeartbeats 4000000 in
set_option maxRecDepth 100000 in
theorem c_X6_copy_0 (l : Launch) (G : gG) (h0 kd mo st ro tp cd sr ir ih ss sq ce lw wo he sk na kp gb go fa ga vo : Nat) (v0 : Int32) (v1 : Int32) (v2 : Int32) (v3 : Int32) (v4 : Int32) (sz : Nat) : Met l yX6_copy wsX6_copy ({ frames := 1, cells := 0, slots := 0, locals := 22 }) (gPre G [.ref h0, .int v0, .int v1, .int v2, .int v3, .int v4] [(h0, .inr (6, [.int 0, .ref kd, .ref mo, .ref st, .int 0, .ref ro, .ref tp, .int 0, .ref cd, .ref sr, .int 1, .int 0, .int 0, .ref ir, .ref ih, .ref ss, .ref sq, .ref ce, .ref lw, .int 40, .int 40, .int 0, .int 0, .ref wo, .ref he, .int 0, .int 0, .int 5, .ref sk, .ref na, .ref kp, .int 0, .int 0, .int 0, .int 0, .ref gb, .ref go, .ref fa, .ref ga, .int 0, .int 0, .ref vo])), (ss, .inl (G.2.1, 4, .inl (upd (upd (upd (upd (fun _ => 0) 0 (-1)) 1 (-1)) 2 (-1)) 3 (-1))))] sz) (q_X6_copy_0 G h0 kd mo st ro tp cd sr ir ih ss sq ce lw wo he sk na kp gb go fa ga vo v0 v1 v2 v3 v4 (va_A [(h0, .inr (6, [.int 0, .ref kd, .ref mo, .ref st, .int 0, .ref ro, .ref tp, .int 0, .ref cd, .ref sr, .int 1, .int 0, .int 0, .ref ir, .ref ih, .ref ss, .ref sq, .ref ce, .ref lw, .int 40, .int 40, .int 0, .int 0, .ref wo, .ref he, .int 0, .int 0, .int 5, .ref sk, .ref na, .ref kp, .int 0, .int 0, .int 0, .int 0, .ref gb, .ref go, .ref fa, .ref ga, .int 0, .int 0, .ref vo])), (ss, .inl (G.2.1, 4, .inl (upd (upd (upd (upd (fun _ => 0) 0 (-1)) 1 (-1)) 2 (-1)) 3 (-1))))] sz)) 0 0 (va_A [(h0, .inr (6, [.int 0, .ref kd, .ref mo, .ref st, .int 0, .ref ro, .ref tp, .int 0, .ref cd, .ref sr, .int 1, .int 0, .int 0, .ref ir, .ref ih, .ref ss, .ref sq, .ref ce, .ref lw, .int 40, .int 40, .int 0, .int 0, .ref wo, .ref he, .int 0, .int 0, .int 5, .ref sk, .ref na, .ref kp, .int 0, .int 0, .int 0, .int 0, .ref gb, .ref go, .ref fa, .ref ga, .int 0, .int 0, .ref vo])), (ss, .inl (G.2.1, 4, .inl (upd (upd (upd (upd (fun _ => 0) 0 (-1)) 1 (-1)) 2 (-1)) 3 (-1))))] sz) := by
  refine Met.ofW (cc := cX6_copy) (maxL := 10) (ret := (some .int)) (by decide) rfl ?_
  intro p e s m args below meth c s₁ B hml hv
  obtain ⟨rfl, hsz, hP, hK, hD0⟩ := hv
  have hx := B.exec
  have hb := B.bytes
  have hr := B.returns
  have hts := atoms_spec (ws := wsX6_copy) B.pre
  have hown : s.vm.findClass RX6 = some m.cls := findClass_of_methodNamed B.named
  have hlocks := B.notSynchronized
  subst hsz
  have hD := hD0.self (sz := s.heap.size)
  generalize hAe : va_A [(h0, .inr (6, [.int 0, .ref kd, .ref mo, .ref st, .int 0, .ref ro, .ref tp, .int 0, .ref cd, .ref sr, .int 1, .int 0, .int 0, .ref ir, .ref ih, .ref ss, .ref sq, .ref ce, .ref lw, .int 40, .int 40, .int 0, .int 0, .ref wo, .ref he, .int 0, .int 0, .int 5, .ref sk, .ref na, .ref kp, .int 0, .int 0, .int 0, .int 0, .ref gb, .ref go, .ref fa, .ref ga, .int 0, .int 0, .ref vo])), (ss, .inl (G.2.1, 4, .inl (upd (upd (upd (upd (fun _ => 0) 0 (-1)) 1 (-1)) 2 (-1)) 3 (-1))))] s.heap.size = A at hD ⊢
  have hA : ∀ q : Nat, s.heap.size ≤ q → A q := fun q h => by rw [← hAe]; exact Or.inr h
  have hS : va_S A s.heap s.heap [] := va_S.rf
  have hP : va_P G.1 vwCl [(h0, .inr (6, [.int 0, .ref kd, .ref mo, .ref st, .int 0, .ref ro, .ref tp, .int 0, .ref cd, .ref sr, .int 1, .int 0, .int 0, .ref ir, .ref ih, .ref ss, .ref sq, .ref ce, .ref lw, .int 40, .int 40, .int 0, .int 0, .ref wo, .ref he, .int 0, .int 0, .int 5, .ref sk, .ref na, .ref kp, .int 0, .int 0, .int 0, .int 0, .ref gb, .ref go, .ref fa, .ref ga, .int 0, .int 0, .ref vo])), (ss, .inl (G.2.1, 4, .inl (upd (upd (upd (upd (fun _ => 0) 0 (-1)) 1 (-1)) 2 (-1)) 3 (-1))))] s.heap := hP
  have hD : va_D A [(h0, .inr (6, [.int 0, .ref kd, .ref mo, .ref st, .int 0, .ref ro, .ref tp, .int 0, .ref cd, .ref sr, .int 1, .int 0, .int 0, .ref ir, .ref ih, .ref ss, .ref sq, .ref ce, .ref lw, .int 40, .int 40, .int 0, .int 0, .ref wo, .ref he, .int 0, .int 0, .int 5, .ref sk, .ref na, .ref kp, .int 0, .int 0, .int 0, .int 0, .ref gb, .ref go, .ref fa, .ref ga, .int 0, .int 0, .ref vo])), (ss, .inl (G.2.1, 4, .inl (upd (upd (upd (upd (fun _ => 0) 0 (-1)) 1 (-1)) 2 (-1)) 3 (-1))))] := hD
  have hl := lv_entry ([.ref h0, .int v0, .int v1, .int v2, .int v3, .int v4]) (n := 10) (Nat.le_of_ble_eq_true rfl)
  rw [lg_entry_eq]
  generalize (lg_sl ([.ref h0, .int v0, .int v1, .int v2, .int v3, .int v4]) ++ List.replicate (10 - (lg_sl ([.ref h0, .int v0, .int v1, .int v2, .int v3, .int v4])).length) Slot.unset).toArray = ls at hl ⊢
  have hl : lv_has ls 10 [(0, .ref h0), (1, .int v0), (2, .int v1), (3, .int v2), (4, .int v3), (5, .int v4)] := hl
  have kf37 := hts (.fieldLink RX6 37 "PebbleInShoeModel" "sheetSort" "[I") (by decide +kernel)
  have hiX6 := (by decide +kernel : ∀ w ∈ wsX60, w ∈ wsX6_copy)
  refine lv_iload_n hx hb dX6_copy_0 rfl (lv_at hl 1 rfl) ?_
  refine lv_iconst (v := 0) hx hb dX6_copy_1 (by decide) ?_
  refine lv_iconst (v := 3) hx hb dX6_copy_2 (by decide) ?_
  have hPc : va_P G.1 vwCl [] s.heap := hP.sub [] rfl
  have hDc : va_D A [] := hD.sub [] (by decide) rfl
  have hFc := va_free (wc := []) hD hS hA [] rfl
  refine va_calli (va_runS (As := [.int v0, .int 0, .int 3]) (rest := []) ⟨hx, hb, hml, hown, hts⟩ (c_X6_in l G v0 0 3 s.heap.size) (va_cwS 3 hts gX6_copy_X6_in rfl rfl rfl (by decide +kernel) ⟨Nat.le_of_ble_eq_true rfl, Nat.le_of_ble_eq_true rfl⟩) ⟨gPre_blind, fun U hU hW => gPre_of hU hW hK hPc hDc⟩ rfl rfl hl.1 rfl (lv_room (Nat.le_of_ble_eq_true rfl)) dX6_copy_3 ⟨Nat.le_of_ble_eq_true rfl, Nat.le_of_ble_eq_true rfl⟩) hS (fun q _ h => hFc q h) hFc (fun r_1 u t H locs ht hvm w_2 hB hz1 hk1 hS => ?_)
  obtain ⟨hP1, hK1, hD1⟩ := hB
  rw [ht] at hP1
  have hP1 : va_P G.1 vwCl [] H := hP1
  have hD1 : va_D (va_A [] s.heap.size) [] := hD1
  have w_2 : r_1 = bz (decide (0 ≤ v0 ∧ v0 ≤ 3)) := w_2
  obtain ⟨hP, hD⟩ := va_join (wr := [(h0, .inr (6, [.int 0, .ref kd, .ref mo, .ref st, .int 0, .ref ro, .ref tp, .int 0, .ref cd, .ref sr, .int 1, .int 0, .int 0, .ref ir, .ref ih, .ref ss, .ref sq, .ref ce, .ref lw, .int 40, .int 40, .int 0, .int 0, .ref wo, .ref he, .int 0, .int 0, .int 5, .ref sk, .ref na, .ref kp, .int 0, .int 0, .int 0, .int 0, .ref gb, .ref go, .ref fa, .ref ga, .int 0, .int 0, .ref vo])), (ss, .inl (G.2.1, 4, .inl (upd (upd (upd (upd (fun _ => 0) 0 (-1)) 1 (-1)) 2 (-1)) 3 (-1))))]) (w1 := []) hP hD [] [0, 1] rfl rfl (by decide) (by decide) hk1 hFc hP1 hD1
  have hP : va_P G.1 vwCl [(h0, .inr (6, [.int 0, .ref kd, .ref mo, .ref st, .int 0, .ref ro, .ref tp, .int 0, .ref cd, .ref sr, .int 1, .int 0, .int 0, .ref ir, .ref ih, .ref ss, .ref sq, .ref ce, .ref lw, .int 40, .int 40, .int 0, .int 0, .ref wo, .ref he, .int 0, .int 0, .int 5, .ref sk, .ref na, .ref kp, .int 0, .int 0, .int 0, .int 0, .ref gb, .ref go, .ref fa, .ref ga, .int 0, .int 0, .ref vo])), (ss, .inl (G.2.1, 4, .inl (upd (upd (upd (upd (fun _ => 0) 0 (-1)) 1 (-1)) 2 (-1)) 3 (-1))))] H := hP
  have hD : va_D A [(h0, .inr (6, [.int 0, .ref kd, .ref mo, .ref st, .int 0, .ref ro, .ref tp, .int 0, .ref cd, .ref sr, .int 1, .int 0, .int 0, .ref ir, .ref ih, .ref ss, .ref sq, .ref ce, .ref lw, .int 40, .int 40, .int 0, .int 0, .ref wo, .ref he, .int 0, .int 0, .int 5, .ref sk, .ref na, .ref kp, .int 0, .int 0, .int 0, .int 0, .ref gb, .ref go, .ref fa, .ref ga, .int 0, .int 0, .ref vo])), (ss, .inl (G.2.1, 4, .inl (upd (upd (upd (upd (fun _ => 0) 0 (-1)) 1 (-1)) 2 (-1)) 3 (-1))))] := hD
  refine lv_if_eq (tgt := 18) hx hb dX6_copy_6 (by decide) (fun c_3 => ?_) (fun c_3 => ?_)
  · skip
    have n_5 : ¬ (0 ≤ v0 ∧ v0 ≤ 3) := of_decide_eq_false (bz_eq w_2 c_3)
    refine lv_bipush (v := -2) hx hb dX6_copy_18 (by decide) ?_
    have hpost : (fun (r : Int32) (u : Unit) => match u with | _ => r = (if (0 ≤ v0 ∧ v0 ≤ 3) ∧ (0 ≤ v2 ∧ v2 ≤ 3) then -11 else -2)) (-2) () := pp_X6_copy_0_1 v0 v1 v2 v3 v4 n_5
    exact W.iret (v := (-2)) hx hb hr (fun t ht hW => ⟨⟨(-2), (), rfl, hpost, trivial⟩, hS.F ht⟩) hS.2.2 dX6_copy_20
  · skip
    have p_4 : 0 ≤ v0 ∧ v0 ≤ 3 := of_decide_eq_true (bz_ne w_2 c_3)
    refine lv_iload_n hx hb dX6_copy_9 rfl (lv_at hl 3 rfl) ?_
    refine lv_iconst (v := 0) hx hb dX6_copy_10 (by decide) ?_
    refine lv_iconst (v := 3) hx hb dX6_copy_11 (by decide) ?_
    have hPc : va_P G.1 vwCl [] H := hP.sub [] rfl
    have hDc : va_D A [] := hD.sub [] (by decide) rfl
    have hFc := va_free (wc := []) hD hS hA [] rfl
    refine va_calli (va_runS (As := [.int v2, .int 0, .int 3]) (rest := []) ⟨hx, hb, hml, hown, hts⟩ (c_X6_in l G v2 0 3 H.size) (va_cwS 3 hts gX6_copy_X6_in rfl rfl rfl (by decide +kernel) ⟨Nat.le_of_ble_eq_true rfl, Nat.le_of_ble_eq_true rfl⟩) ⟨gPre_blind, fun U hU hW => gPre_of hU hW hK hPc hDc⟩ rfl rfl hl.1 rfl (lv_room (Nat.le_of_ble_eq_true rfl)) dX6_copy_12 ⟨Nat.le_of_ble_eq_true rfl, Nat.le_of_ble_eq_true rfl⟩) hS (fun q _ h => hFc q h) hFc (fun r_6 u t H locs ht hvm w_7 hB hz1 hk1 hS => ?_)
    obtain ⟨hP1, hK1, hD1⟩ := hB
    rw [ht] at hP1
    have hP1 : va_P G.1 vwCl [] H := hP1
    have hD1 : va_D (va_A [] _) [] := hD1
    have w_7 : r_6 = bz (decide (0 ≤ v2 ∧ v2 ≤ 3)) := w_7
    obtain ⟨hP, hD⟩ := va_join (wr := [(h0, .inr (6, [.int 0, .ref kd, .ref mo, .ref st, .int 0, .ref ro, .ref tp, .int 0, .ref cd, .ref sr, .int 1, .int 0, .int 0, .ref ir, .ref ih, .ref ss, .ref sq, .ref ce, .ref lw, .int 40, .int 40, .int 0, .int 0, .ref wo, .ref he, .int 0, .int 0, .int 5, .ref sk, .ref na, .ref kp, .int 0, .int 0, .int 0, .int 0, .ref gb, .ref go, .ref fa, .ref ga, .int 0, .int 0, .ref vo])), (ss, .inl (G.2.1, 4, .inl (upd (upd (upd (upd (fun _ => 0) 0 (-1)) 1 (-1)) 2 (-1)) 3 (-1))))]) (w1 := []) hP hD [] [0, 1] rfl rfl (by decide) (by decide) hk1 hFc hP1 hD1
    have hP : va_P G.1 vwCl [(h0, .inr (6, [.int 0, .ref kd, .ref mo, .ref st, .int 0, .ref ro, .ref tp, .int 0, .ref cd, .ref sr, .int 1, .int 0, .int 0, .ref ir, .ref ih, .ref ss, .ref sq, .ref ce, .ref lw, .int 40, .int 40, .int 0, .int 0, .ref wo, .ref he, .int 0, .int 0, .int 5, .ref sk, .ref na, .ref kp, .int 0, .int 0, .int 0, .int 0, .ref gb, .ref go, .ref fa, .ref ga, .int 0, .int 0, .ref vo])), (ss, .inl (G.2.1, 4, .inl (upd (upd (upd (upd (fun _ => 0) 0 (-1)) 1 (-1)) 2 (-1)) 3 (-1))))] H := hP
    have hD : va_D A [(h0, .inr (6, [.int 0, .ref kd, .ref mo, .ref st, .int 0, .ref ro, .ref tp, .int 0, .ref cd, .ref sr, .int 1, .int 0, .int 0, .ref ir, .ref ih, .ref ss, .ref sq, .ref ce, .ref lw, .int 40, .int 40, .int 0, .int 0, .ref wo, .ref he, .int 0, .int 0, .int 5, .ref sk, .ref na, .ref kp, .int 0, .int 0, .int 0, .int 0, .ref gb, .ref go, .ref fa, .ref ga, .int 0, .int 0, .ref vo])), (ss, .inl (G.2.1, 4, .inl (upd (upd (upd (upd (fun _ => 0) 0 (-1)) 1 (-1)) 2 (-1)) 3 (-1))))] := hD
    refine lv_if_ne (tgt := 21) hx hb dX6_copy_15 (by decide) (fun c_8 => ?_) (fun c_8 => ?_)
    · skip
      have p_9 : 0 ≤ v2 ∧ v2 ≤ 3 := of_decide_eq_true (bz_ne w_7 c_8)
      refine lv_aload_n hx hb dX6_copy_21 rfl (lv_at hl 0 rfl) ?_
      refine va_get (D := G.1) (ci := 6) (v := .ref ss) (C := RX6) (T := TX6) (N := 42) hx hb hts hiX6 hown hK hP 0 rfl rfl 15 (by decide) kf37 (fun _ h9 => h9) rfl dX6_copy_22 ?_
      refine lv_iload_n hx hb dX6_copy_25 rfl (lv_at hl 1 rfl) ?_
      refine va_iald (D := G.1) hx hb hK hP 1 0 rfl rfl (i := v0) (g_in3 (by assumption)) dX6_copy_26 ?_
      refine lv_topi (fun v_11 ev_11 => ?_)
      have ev_11 : v_11 = -1 := ev_11.trans (g_m2 (by assumption))
      subst ev_11
      refine lv_iconst (v := -1) hx hb dX6_copy_27 (by decide) ?_
      refine lv_icmp_eq (tgt := 41) hx hb dX6_copy_28 (by decide) (fun c_12 => ?_) (fun c_12 => ?_)
      rotate_left
      · exact absurd (by decide) c_12
      refine lv_bipush (v := -11) hx hb dX6_copy_41 (by decide) ?_
      have hpost : (fun (r : Int32) (u : Unit) => match u with | _ => r = (if (0 ≤ v0 ∧ v0 ≤ 3) ∧ (0 ≤ v2 ∧ v2 ≤ 3) then -11 else -2)) (-11) () := pp_X6_copy_0_2 v0 v1 v2 v3 v4 p_4 p_9
      exact W.iret (v := (-11)) hx hb hr (fun t ht hW => ⟨⟨(-11), (), rfl, hpost, trivial⟩, hS.F ht⟩) hS.2.2 dX6_copy_43
    · skip
      have n_10 : ¬ (0 ≤ v2 ∧ v2 ≤ 3) := of_decide_eq_false (bz_eq w_7 c_8)
      refine lv_bipush (v := -2) hx hb dX6_copy_18 (by decide) ?_
      have hpost : (fun (r : Int32) (u : Unit) => match u with | _ => r = (if (0 ≤ v0 ∧ v0 ≤ 3) ∧ (0 ≤ v2 ∧ v2 ≤ 3) then -11 else -2)) (-2) () := pp_X6_copy_0_3 v0 v1 v2 v3 v4 p_4 n_10
      exact W.iret (v := (-2)) hx hb hr (fun t ht hW => ⟨⟨(-2), (), rfl, hpost, trivial⟩, hS.F ht⟩) hS.2.2 dX6_copy_20
theorem pp_X6_pebblesBy_0_1 (v0 : Int32) (v1 : Int32) (v2 : Int32) (v3 : Int32) (n_5 : ¬ (0 ≤ v0 ∧ v0 ≤ 3)) : ((-2) : Int32) = (if (0 ≤ v0 ∧ v0 ≤ 3) ∧ (0 ≤ v1 ∧ v1 ≤ 2) ∧ (0 ≤ v3 ∧ v3 ≤ 6) then -11 else -2) := by
  first
    | rfl
    | exact bz_pos (by (first | omega | (simp only [Int32.lt_iff_toInt_lt, Int32.le_iff_toInt_le, ← Int32.toInt_inj, Int32.reduceToInt] at * <;> omega)))
    | exact bz_neg (by (first | omega | (simp only [Int32.lt_iff_toInt_lt, Int32.le_iff_toInt_le, ← Int32.toInt_inj, Int32.reduceToInt] at * <;> omega)))
    | ((repeat' split) <;> first | rfl | assumption | (symm; assumption) | (exfalso; (first | omega | (simp only [Int32.lt_iff_toInt_lt, Int32.le_iff_toInt_le, ← Int32.toInt_inj, Int32.reduceToInt] at * <;> omega))))
theorem pp_X6_pebblesBy_0_2 (v0 : Int32) (v1 : Int32) (v2 : Int32) (v3 : Int32) (p_4 : 0 ≤ v0 ∧ v0 ≤ 3) (n_10 : ¬ (0 ≤ v1 ∧ v1 ≤ 2)) : ((-2) : Int32) = (if (0 ≤ v0 ∧ v0 ≤ 3) ∧ (0 ≤ v1 ∧ v1 ≤ 2) ∧ (0 ≤ v3 ∧ v3 ≤ 6) then -11 else -2) := by
  first
    | rfl
    | exact bz_pos (by (first | omega | (simp only [Int32.lt_iff_toInt_lt, Int32.le_iff_toInt_le, ← Int32.toInt_inj, Int32.reduceToInt] at * <;> omega)))
    | exact bz_neg (by (first | omega | (simp only [Int32.lt_iff_toInt_lt, Int32.le_iff_toInt_le, ← Int32.toInt_inj, Int32.reduceToInt] at * <;> omega)))
    | ((repeat' split) <;> first | rfl | assumption | (symm; assumption) | (exfalso; (first | omega | (simp only [Int32.lt_iff_toInt_lt, Int32.le_iff_toInt_le, ← Int32.toInt_inj, Int32.reduceToInt] at * <;> omega))))
theorem pp_X6_pebblesBy_0_3 (v0 : Int32) (v1 : Int32) (v2 : Int32) (v3 : Int32) (p_4 : 0 ≤ v0 ∧ v0 ≤ 3) (p_9 : 0 ≤ v1 ∧ v1 ≤ 2) (p_14 : 0 ≤ v3 ∧ v3 ≤ 6) : ((-11) : Int32) = (if (0 ≤ v0 ∧ v0 ≤ 3) ∧ (0 ≤ v1 ∧ v1 ≤ 2) ∧ (0 ≤ v3 ∧ v3 ≤ 6) then -11 else -2) := by
  first
    | rfl
    | exact bz_pos (by (first | omega | (simp only [Int32.lt_iff_toInt_lt, Int32.le_iff_toInt_le, ← Int32.toInt_inj, Int32.reduceToInt] at * <;> omega)))
    | exact bz_neg (by (first | omega | (simp only [Int32.lt_iff_toInt_lt, Int32.le_iff_toInt_le, ← Int32.toInt_inj, Int32.reduceToInt] at * <;> omega)))
    | ((repeat' split) <;> first | rfl | assumption | (symm; assumption) | (exfalso; (first | omega | (simp only [Int32.lt_iff_toInt_lt, Int32.le_iff_toInt_le, ← Int32.toInt_inj, Int32.reduceToInt] at * <;> omega))))
theorem pp_X6_pebblesBy_0_4 (v0 : Int32) (v1 : Int32) (v2 : Int32) (v3 : Int32) (p_4 : 0 ≤ v0 ∧ v0 ≤ 3) (p_9 : 0 ≤ v1 ∧ v1 ≤ 2) (n_15 : ¬ (0 ≤ v3 ∧ v3 ≤ 6)) : ((-2) : Int32) = (if (0 ≤ v0 ∧ v0 ≤ 3) ∧ (0 ≤ v1 ∧ v1 ≤ 2) ∧ (0 ≤ v3 ∧ v3 ≤ 6) then -11 else -2) := by
  first
    | rfl
    | exact bz_pos (by (first | omega | (simp only [Int32.lt_iff_toInt_lt, Int32.le_iff_toInt_le, ← Int32.toInt_inj, Int32.reduceToInt] at * <;> omega)))
    | exact bz_neg (by (first | omega | (simp only [Int32.lt_iff_toInt_lt, Int32.le_iff_toInt_le, ← Int32.toInt_inj, Int32.reduceToInt] at * <;> omega)))
    | ((repeat' split) <;> first | rfl | assumption | (symm; assumption) | (exfalso; (first | omega | (simp only [Int32.lt_iff_toInt_lt, Int32.le_iff_toInt_le, ← Int32.toInt_inj, Int32.reduceToInt] at * <;> omega))))
abbrev q_X6_pebblesBy_0 (G : gG) (h0 kd mo st ro tp cd sr ir ih ss sq ce lw wo he sk na kp gb go fa ga vo : Nat) (v0 : Int32) (v1 : Int32) (v2 : Int32) (v3 : Int32) (A : Nat → Prop) : Array Value → State → Outcome → State → Prop := va_Qi (fun (r : Int32) (u : Unit) => match u with | _ => r = (if (0 ≤ v0 ∧ v0 ≤ 3) ∧ (0 ≤ v1 ∧ v1 ≤ 2) ∧ (0 ≤ v3 ∧ v3 ≤ 6) then -11 else -2)) (fun (u : Unit) t => match u with | _ => True) A
set_option maxHeartbeats 4000000 in
set_option maxRecDepth 100000 in
theorem c_X6_pebblesBy_0 (l : Launch) (G : gG) (h0 kd mo st ro tp cd sr ir ih ss sq ce lw wo he sk na kp gb go fa ga vo : Nat) (v0 : Int32) (v1 : Int32) (v2 : Int32) (v3 : Int32) (sz : Nat) : Met l yX6_pebblesBy wsX6_pebblesBy ({ frames := 1, cells := 0, slots := 0, locals := 22 }) (gPre G [.ref h0, .int v0, .int v1, .int v2, .int v3] [(h0, .inr (6, [.int 0, .ref kd, .ref mo, .ref st, .int 0, .ref ro, .ref tp, .int 0, .ref cd, .ref sr, .int 1, .int 0, .int 0, .ref ir, .ref ih, .ref ss, .ref sq, .ref ce, .ref lw, .int 40, .int 40, .int 0, .int 0, .ref wo, .ref he, .int 0, .int 0, .int 5, .ref sk, .ref na, .ref kp, .int 0, .int 0, .int 0, .int 0, .ref gb, .ref go, .ref fa, .ref ga, .int 0, .int 0, .ref vo])), (ss, .inl (G.2.1, 4, .inl (upd (upd (upd (upd (fun _ => 0) 0 (-1)) 1 (-1)) 2 (-1)) 3 (-1))))] sz) (q_X6_pebblesBy_0 G h0 kd mo st ro tp cd sr ir ih ss sq ce lw wo he sk na kp gb go fa ga vo v0 v1 v2 v3 (va_A [(h0, .inr (6, [.int 0, .ref kd, .ref mo, .ref st, .int 0, .ref ro, .ref tp, .int 0, .ref cd, .ref sr, .int 1, .int 0, .int 0, .ref ir, .ref ih, .ref ss, .ref sq, .ref ce, .ref lw, .int 40, .int 40, .int 0, .int 0, .ref wo, .ref he, .int 0, .int 0, .int 5, .ref sk, .ref na, .ref kp, .int 0, .int 0, .int 0, .int 0, .ref gb, .ref go, .ref fa, .ref ga, .int 0, .int 0, .ref vo])), (ss, .inl (G.2.1, 4, .inl (upd (upd (upd (upd (fun _ => 0) 0 (-1)) 1 (-1)) 2 (-1)) 3 (-1))))] sz)) 0 0 (va_A [(h0, .inr (6, [.int 0, .ref kd, .ref mo, .ref st, .int 0, .ref ro, .ref tp, .int 0, .ref cd, .ref sr, .int 1, .int 0, .int 0, .ref ir, .ref ih, .ref ss, .ref sq, .ref ce, .ref lw, .int 40, .int 40, .int 0, .int 0, .ref wo, .ref he, .int 0, .int 0, .int 5, .ref sk, .ref na, .ref kp, .int 0, .int 0, .int 0, .int 0, .ref gb, .ref go, .ref fa, .ref ga, .int 0, .int 0, .ref vo])), (ss, .inl (G.2.1, 4, .inl (upd (upd (upd (upd (fun _ => 0) 0 (-1)) 1 (-1)) 2 (-1)) 3 (-1))))] sz) := by
  refine Met.ofW (cc := cX6_pebblesBy) (maxL := 9) (ret := (some .int)) (by decide) rfl ?_
  intro p e s m args below meth c s₁ B hml hv
  obtain ⟨rfl, hsz, hP, hK, hD0⟩ := hv
  have hx := B.exec
  have hb := B.bytes
  have hr := B.returns
  have hts := atoms_spec (ws := wsX6_pebblesBy) B.pre
  have hown : s.vm.findClass RX6 = some m.cls := findClass_of_methodNamed B.named
  have hlocks := B.notSynchronized
  subst hsz
  have hD := hD0.self (sz := s.heap.size)
  generalize hAe : va_A [(h0, .inr (6, [.int 0, .ref kd, .ref mo, .ref st, .int 0, .ref ro, .ref tp, .int 0, .ref cd, .ref sr, .int 1, .int 0, .int 0, .ref ir, .ref ih, .ref ss, .ref sq, .ref ce, .ref lw, .int 40, .int 40, .int 0, .int 0, .ref wo, .ref he, .int 0, .int 0, .int 5, .ref sk, .ref na, .ref kp, .int 0, .int 0, .int 0, .int 0, .ref gb, .ref go, .ref fa, .ref ga, .int 0, .int 0, .ref vo])), (ss, .inl (G.2.1, 4, .inl (upd (upd (upd (upd (fun _ => 0) 0 (-1)) 1 (-1)) 2 (-1)) 3 (-1))))] s.heap.size = A at hD ⊢
  have hA : ∀ q : Nat, s.heap.size ≤ q → A q := fun q h => by rw [← hAe]; exact Or.inr h
  have hS : va_S A s.heap s.heap [] := va_S.rf
  have hP : va_P G.1 vwCl [(h0, .inr (6, [.int 0, .ref kd, .ref mo, .ref st, .int 0, .ref ro, .ref tp, .int 0, .ref cd, .ref sr, .int 1, .int 0, .int 0, .ref ir, .ref ih, .ref ss, .ref sq, .ref ce, .ref lw, .int 40, .int 40, .int 0, .int 0, .ref wo, .ref he, .int 0, .int 0, .int 5, .ref sk, .ref na, .ref kp, .int 0, .int 0, .int 0, .int 0, .ref gb, .ref go, .ref fa, .ref ga, .int 0, .int 0, .ref vo])), (ss, .inl (G.2.1, 4, .inl (upd (upd (upd (upd (fun _ => 0) 0 (-1)) 1 (-1)) 2 (-1)) 3 (-1))))] s.heap := hP
  have hD : va_D A [(h0, .inr (6, [.int 0, .ref kd, .ref mo, .ref st, .int 0, .ref ro, .ref tp, .int 0, .ref cd, .ref sr, .int 1, .int 0, .int 0, .ref ir, .ref ih, .ref ss, .ref sq, .ref ce, .ref lw, .int 40, .int 40, .int 0, .int 0, .ref wo, .ref he, .int 0, .int 0, .int 5, .ref sk, .ref na, .ref kp, .int 0, .int 0, .int 0, .int 0, .ref gb, .ref go, .ref fa, .ref ga, .int 0, .int 0, .ref vo])), (ss, .inl (G.2.1, 4, .inl (upd (upd (upd (upd (fun _ => 0) 0 (-1)) 1 (-1)) 2 (-1)) 3 (-1))))] := hD
  have hl := lv_entry ([.ref h0, .int v0, .int v1, .int v2, .int v3]) (n := 9) (Nat.le_of_ble_eq_true rfl)
  rw [lg_entry_eq]
  generalize (lg_sl ([.ref h0, .int v0, .int v1, .int v2, .int v3]) ++ List.replicate (9 - (lg_sl ([.ref h0, .int v0, .int v1, .int v2, .int v3])).length) Slot.unset).toArray = ls at hl ⊢
  have hl : lv_has ls 9 [(0, .ref h0), (1, .int v0), (2, .int v1), (3, .int v2), (4, .int v3)] := hl
  have kf37 := hts (.fieldLink RX6 37 "PebbleInShoeModel" "sheetSort" "[I") (by decide +kernel)
  have hiX6 := (by decide +kernel : ∀ w ∈ wsX60, w ∈ wsX6_pebblesBy)
  refine lv_iload_n hx hb dX6_pebblesBy_0 rfl (lv_at hl 1 rfl) ?_
  refine lv_iconst (v := 0) hx hb dX6_pebblesBy_1 (by decide) ?_
  refine lv_iconst (v := 3) hx hb dX6_pebblesBy_2 (by decide) ?_
  have hPc : va_P G.1 vwCl [] s.heap := hP.sub [] rfl
  have hDc : va_D A [] := hD.sub [] (by decide) rfl
  have hFc := va_free (wc := []) hD hS hA [] rfl
  refine va_calli (va_runS (As := [.int v0, .int 0, .int 3]) (rest := []) ⟨hx, hb, hml, hown, hts⟩ (c_X6_in l G v0 0 3 s.heap.size) (va_cwS 3 hts gX6_pebblesBy_X6_in rfl rfl rfl (by decide +kernel) ⟨Nat.le_of_ble_eq_true rfl, Nat.le_of_ble_eq_true rfl⟩) ⟨gPre_blind, fun U hU hW => gPre_of hU hW hK hPc hDc⟩ rfl rfl hl.1 rfl (lv_room (Nat.le_of_ble_eq_true rfl)) dX6_pebblesBy_3 ⟨Nat.le_of_ble_eq_true rfl, Nat.le_of_ble_eq_true rfl⟩) hS (fun q _ h => hFc q h) hFc (fun r_1 u t H locs ht hvm w_2 hB hz1 hk1 hS => ?_)
  obtain ⟨hP1, hK1, hD1⟩ := hB
  rw [ht] at hP1
  have hP1 : va_P G.1 vwCl [] H := hP1
  have hD1 : va_D (va_A [] s.heap.size) [] := hD1
  have w_2 : r_1 = bz (decide (0 ≤ v0 ∧ v0 ≤ 3)) := w_2
  obtain ⟨hP, hD⟩ := va_join (wr := [(h0, .inr (6, [.int 0, .ref kd, .ref mo, .ref st, .int 0, .ref ro, .ref tp, .int 0, .ref cd, .ref sr, .int 1, .int 0, .int 0, .ref ir, .ref ih, .ref ss, .ref sq, .ref ce, .ref lw, .int 40, .int 40, .int 0, .int 0, .ref wo, .ref he, .int 0, .int 0, .int 5, .ref sk, .ref na, .ref kp, .int 0, .int 0, .int 0, .int 0, .ref gb, .ref go, .ref fa, .ref ga, .int 0, .int 0, .ref vo])), (ss, .inl (G.2.1, 4, .inl (upd (upd (upd (upd (fun _ => 0) 0 (-1)) 1 (-1)) 2 (-1)) 3 (-1))))]) (w1 := []) hP hD [] [0, 1] rfl rfl (by decide) (by decide) hk1 hFc hP1 hD1
  have hP : va_P G.1 vwCl [(h0, .inr (6, [.int 0, .ref kd, .ref mo, .ref st, .int 0, .ref ro, .ref tp, .int 0, .ref cd, .ref sr, .int 1, .int 0, .int 0, .ref ir, .ref ih, .ref ss, .ref sq, .ref ce, .ref lw, .int 40, .int 40, .int 0, .int 0, .ref wo, .ref he, .int 0, .int 0, .int 5, .ref sk, .ref na, .ref kp, .int 0, .int 0, .int 0, .int 0, .ref gb, .ref go, .ref fa, .ref ga, .int 0, .int 0, .ref vo])), (ss, .inl (G.2.1, 4, .inl (upd (upd (upd (upd (fun _ => 0) 0 (-1)) 1 (-1)) 2 (-1)) 3 (-1))))] H := hP
  have hD : va_D A [(h0, .inr (6, [.int 0, .ref kd, .ref mo, .ref st, .int 0, .ref ro, .ref tp, .int 0, .ref cd, .ref sr, .int 1, .int 0, .int 0, .ref ir, .ref ih, .ref ss, .ref sq, .ref ce, .ref lw, .int 40, .int 40, .int 0, .int 0, .ref wo, .ref he, .int 0, .int 0, .int 5, .ref sk, .ref na, .ref kp, .int 0, .int 0, .int 0, .int 0, .ref gb, .ref go, .ref fa, .ref ga, .int 0, .int 0, .ref vo])), (ss, .inl (G.2.1, 4, .inl (upd (upd (upd (upd (fun _ => 0) 0 (-1)) 1 (-1)) 2 (-1)) 3 (-1))))] := hD
  refine lv_if_eq (tgt := 29) hx hb dX6_pebblesBy_6 (by decide) (fun c_3 => ?_) (fun c_3 => ?_)
  · skip
    have n_5 : ¬ (0 ≤ v0 ∧ v0 ≤ 3) := of_decide_eq_false (bz_eq w_2 c_3)
    refine lv_bipush (v := -2) hx hb dX6_pebblesBy_29 (by decide) ?_
    have hpost : (fun (r : Int32) (u : Unit) => match u with | _ => r = (if (0 ≤ v0 ∧ v0 ≤ 3) ∧ (0 ≤ v1 ∧ v1 ≤ 2) ∧ (0 ≤ v3 ∧ v3 ≤ 6) then -11 else -2)) (-2) () := pp_X6_pebblesBy_0_1 v0 v1 v2 v3 n_5
    exact W.iret (v := (-2)) hx hb hr (fun t ht hW => ⟨⟨(-2), (), rfl, hpost, trivial⟩, hS.F ht⟩) hS.2.2 dX6_pebblesBy_31
  · skip
    have p_4 : 0 ≤ v0 ∧ v0 ≤ 3 := of_decide_eq_true (bz_ne w_2 c_3)
    refine lv_iload_n hx hb dX6_pebblesBy_9 rfl (lv_at hl 2 rfl) ?_
    refine lv_iconst (v := 0) hx hb dX6_pebblesBy_10 (by decide) ?_
    refine lv_iconst (v := 2) hx hb dX6_pebblesBy_11 (by decide) ?_
    have hPc : va_P G.1 vwCl [] H := hP.sub [] rfl
    have hDc : va_D A [] := hD.sub [] (by decide) rfl
    have hFc := va_free (wc := []) hD hS hA [] rfl
    refine va_calli (va_runS (As := [.int v1, .int 0, .int 2]) (rest := []) ⟨hx, hb, hml, hown, hts⟩ (c_X6_in l G v1 0 2 H.size) (va_cwS 3 hts gX6_pebblesBy_X6_in rfl rfl rfl (by decide +kernel) ⟨Nat.le_of_ble_eq_true rfl, Nat.le_of_ble_eq_true rfl⟩) ⟨gPre_blind, fun U hU hW => gPre_of hU hW hK hPc hDc⟩ rfl rfl hl.1 rfl (lv_room (Nat.le_of_ble_eq_true rfl)) dX6_pebblesBy_12 ⟨Nat.le_of_ble_eq_true rfl, Nat.le_of_ble_eq_true rfl⟩) hS (fun q _ h => hFc q h) hFc (fun r_6 u t H locs ht hvm w_7 hB hz1 hk1 hS => ?_)
    obtain ⟨hP1, hK1, hD1⟩ := hB
    rw [ht] at hP1
    have hP1 : va_P G.1 vwCl [] H := hP1
    have hD1 : va_D (va_A [] _) [] := hD1
    have w_7 : r_6 = bz (decide (0 ≤ v1 ∧ v1 ≤ 2)) := w_7
    obtain ⟨hP, hD⟩ := va_join (wr := [(h0, .inr (6, [.int 0, .ref kd, .ref mo, .ref st, .int 0, .ref ro, .ref tp, .int 0, .ref cd, .ref sr, .int 1, .int 0, .int 0, .ref ir, .ref ih, .ref ss, .ref sq, .ref ce, .ref lw, .int 40, .int 40, .int 0, .int 0, .ref wo, .ref he, .int 0, .int 0, .int 5, .ref sk, .ref na, .ref kp, .int 0, .int 0, .int 0, .int 0, .ref gb, .ref go, .ref fa, .ref ga, .int 0, .int 0, .ref vo])), (ss, .inl (G.2.1, 4, .inl (upd (upd (upd (upd (fun _ => 0) 0 (-1)) 1 (-1)) 2 (-1)) 3 (-1))))]) (w1 := []) hP hD [] [0, 1] rfl rfl (by decide) (by decide) hk1 hFc hP1 hD1
    have hP : va_P G.1 vwCl [(h0, .inr (6, [.int 0, .ref kd, .ref mo, .ref st, .int 0, .ref ro, .ref tp, .int 0, .ref cd, .ref sr, .int 1, .int 0, .int 0, .ref ir, .ref ih, .ref ss, .ref sq, .ref ce, .ref lw, .int 40, .int 40, .int 0, .int 0, .ref wo, .ref he, .int 0, .int 0, .int 5, .ref sk, .ref na, .ref kp, .int 0, .int 0, .int 0, .int 0, .ref gb, .ref go, .ref fa, .ref ga, .int 0, .int 0, .ref vo])), (ss, .inl (G.2.1, 4, .inl (upd (upd (upd (upd (fun _ => 0) 0 (-1)) 1 (-1)) 2 (-1)) 3 (-1))))] H := hP
    have hD : va_D A [(h0, .inr (6, [.int 0, .ref kd, .ref mo, .ref st, .int 0, .ref ro, .ref tp, .int 0, .ref cd, .ref sr, .int 1, .int 0, .int 0, .ref ir, .ref ih, .ref ss, .ref sq, .ref ce, .ref lw, .int 40, .int 40, .int 0, .int 0, .ref wo, .ref he, .int 0, .int 0, .int 5, .ref sk, .ref na, .ref kp, .int 0, .int 0, .int 0, .int 0, .ref gb, .ref go, .ref fa, .ref ga, .int 0, .int 0, .ref vo])), (ss, .inl (G.2.1, 4, .inl (upd (upd (upd (upd (fun _ => 0) 0 (-1)) 1 (-1)) 2 (-1)) 3 (-1))))] := hD
    refine lv_if_eq (tgt := 29) hx hb dX6_pebblesBy_15 (by decide) (fun c_8 => ?_) (fun c_8 => ?_)
    · skip
      have n_10 : ¬ (0 ≤ v1 ∧ v1 ≤ 2) := of_decide_eq_false (bz_eq w_7 c_8)
      refine lv_bipush (v := -2) hx hb dX6_pebblesBy_29 (by decide) ?_
      have hpost : (fun (r : Int32) (u : Unit) => match u with | _ => r = (if (0 ≤ v0 ∧ v0 ≤ 3) ∧ (0 ≤ v1 ∧ v1 ≤ 2) ∧ (0 ≤ v3 ∧ v3 ≤ 6) then -11 else -2)) (-2) () := pp_X6_pebblesBy_0_2 v0 v1 v2 v3 p_4 n_10
      exact W.iret (v := (-2)) hx hb hr (fun t ht hW => ⟨⟨(-2), (), rfl, hpost, trivial⟩, hS.F ht⟩) hS.2.2 dX6_pebblesBy_31
    · skip
      have p_9 : 0 ≤ v1 ∧ v1 ≤ 2 := of_decide_eq_true (bz_ne w_7 c_8)
      refine lv_iload hx hb dX6_pebblesBy_18 (lv_at hl 4 rfl) ?_
      refine lv_iconst (v := 0) hx hb dX6_pebblesBy_20 (by decide) ?_
      refine lv_bipush (v := 6) hx hb dX6_pebblesBy_21 (by decide) ?_
      have hPc : va_P G.1 vwCl [] H := hP.sub [] rfl
      have hDc : va_D A [] := hD.sub [] (by decide) rfl
      have hFc := va_free (wc := []) hD hS hA [] rfl
      refine va_calli (va_runS (As := [.int v3, .int 0, .int 6]) (rest := []) ⟨hx, hb, hml, hown, hts⟩ (c_X6_in l G v3 0 6 H.size) (va_cwS 3 hts gX6_pebblesBy_X6_in rfl rfl rfl (by decide +kernel) ⟨Nat.le_of_ble_eq_true rfl, Nat.le_of_ble_eq_true rfl⟩) ⟨gPre_blind, fun U hU hW => gPre_of hU hW hK hPc hDc⟩ rfl rfl hl.1 rfl (lv_room (Nat.le_of_ble_eq_true rfl)) dX6_pebblesBy_23 ⟨Nat.le_of_ble_eq_true rfl, Nat.le_of_ble_eq_true rfl⟩) hS (fun q _ h => hFc q h) hFc (fun r_11 u t H locs ht hvm w_12 hB hz1 hk1 hS => ?_)
      obtain ⟨hP1, hK1, hD1⟩ := hB
      rw [ht] at hP1
      have hP1 : va_P G.1 vwCl [] H := hP1
      have hD1 : va_D (va_A [] _) [] := hD1
      have w_12 : r_11 = bz (decide (0 ≤ v3 ∧ v3 ≤ 6)) := w_12
      obtain ⟨hP, hD⟩ := va_join (wr := [(h0, .inr (6, [.int 0, .ref kd, .ref mo, .ref st, .int 0, .ref ro, .ref tp, .int 0, .ref cd, .ref sr, .int 1, .int 0, .int 0, .ref ir, .ref ih, .ref ss, .ref sq, .ref ce, .ref lw, .int 40, .int 40, .int 0, .int 0, .ref wo, .ref he, .int 0, .int 0, .int 5, .ref sk, .ref na, .ref kp, .int 0, .int 0, .int 0, .int 0, .ref gb, .ref go, .ref fa, .ref ga, .int 0, .int 0, .ref vo])), (ss, .inl (G.2.1, 4, .inl (upd (upd (upd (upd (fun _ => 0) 0 (-1)) 1 (-1)) 2 (-1)) 3 (-1))))]) (w1 := []) hP hD [] [0, 1] rfl rfl (by decide) (by decide) hk1 hFc hP1 hD1
      have hP : va_P G.1 vwCl [(h0, .inr (6, [.int 0, .ref kd, .ref mo, .ref st, .int 0, .ref ro, .ref tp, .int 0, .ref cd, .ref sr, .int 1, .int 0, .int 0, .ref ir, .ref ih, .ref ss, .ref sq, .ref ce, .ref lw, .int 40, .int 40, .int 0, .int 0, .ref wo, .ref he, .int 0, .int 0, .int 5, .ref sk, .ref na, .ref kp, .int 0, .int 0, .int 0, .int 0, .ref gb, .ref go, .ref fa, .ref ga, .int 0, .int 0, .ref vo])), (ss, .inl (G.2.1, 4, .inl (upd (upd (upd (upd (fun _ => 0) 0 (-1)) 1 (-1)) 2 (-1)) 3 (-1))))] H := hP
      have hD : va_D A [(h0, .inr (6, [.int 0, .ref kd, .ref mo, .ref st, .int 0, .ref ro, .ref tp, .int 0, .ref cd, .ref sr, .int 1, .int 0, .int 0, .ref ir, .ref ih, .ref ss, .ref sq, .ref ce, .ref lw, .int 40, .int 40, .int 0, .int 0, .ref wo, .ref he, .int 0, .int 0, .int 5, .ref sk, .ref na, .ref kp, .int 0, .int 0, .int 0, .int 0, .ref gb, .ref go, .ref fa, .ref ga, .int 0, .int 0, .ref vo])), (ss, .inl (G.2.1, 4, .inl (upd (upd (upd (upd (fun _ => 0) 0 (-1)) 1 (-1)) 2 (-1)) 3 (-1))))] := hD
      refine lv_if_ne (tgt := 32) hx hb dX6_pebblesBy_26 (by decide) (fun c_13 => ?_) (fun c_13 => ?_)
      · skip
        have p_14 : 0 ≤ v3 ∧ v3 ≤ 6 := of_decide_eq_true (bz_ne w_12 c_13)
        refine lv_aload_n hx hb dX6_pebblesBy_32 rfl (lv_at hl 0 rfl) ?_
        refine va_get (D := G.1) (ci := 6) (v := .ref ss) (C := RX6) (T := TX6) (N := 42) hx hb hts hiX6 hown hK hP 0 rfl rfl 15 (by decide) kf37 (fun _ h9 => h9) rfl dX6_pebblesBy_33 ?_
        refine lv_iload_n hx hb dX6_pebblesBy_36 rfl (lv_at hl 1 rfl) ?_
        refine va_iald (D := G.1) hx hb hK hP 1 0 rfl rfl (i := v0) (g_in3 (by assumption)) dX6_pebblesBy_37 ?_
        refine lv_topi (fun v_16 ev_16 => ?_)
        have ev_16 : v_16 = -1 := ev_16.trans (g_m2 (by assumption))
        subst ev_16
        refine lv_iconst (v := -1) hx hb dX6_pebblesBy_38 (by decide) ?_
        refine lv_icmp_ne (tgt := 45) hx hb dX6_pebblesBy_39 (by decide) (fun c_17 => ?_) (fun c_17 => ?_)
        · exact absurd (by decide) c_17
        refine lv_bipush (v := -11) hx hb dX6_pebblesBy_42 (by decide) ?_
        have hpost : (fun (r : Int32) (u : Unit) => match u with | _ => r = (if (0 ≤ v0 ∧ v0 ≤ 3) ∧ (0 ≤ v1 ∧ v1 ≤ 2) ∧ (0 ≤ v3 ∧ v3 ≤ 6) then -11 else -2)) (-11) () := pp_X6_pebblesBy_0_3 v0 v1 v2 v3 p_4 p_9 p_14
        exact W.iret (v := (-11)) hx hb hr (fun t ht hW => ⟨⟨(-11), (), rfl, hpost, trivial⟩, hS.F ht⟩) hS.2.2 dX6_pebblesBy_44
      · skip
        have n_15 : ¬ (0 ≤ v3 ∧ v3 ≤ 6) := of_decide_eq_false (bz_eq w_12 c_13)
        refine lv_bipush (v := -2) hx hb dX6_pebblesBy_29 (by decide) ?_
        have hpost : (fun (r : Int32) (u : Unit) => match u with | _ => r = (if (0 ≤ v0 ∧ v0 ≤ 3) ∧ (0 ≤ v1 ∧ v1 ≤ 2) ∧ (0 ≤ v3 ∧ v3 ≤ 6) then -11 else -2)) (-2) () := pp_X6_pebblesBy_0_4 v0 v1 v2 v3 p_4 p_9 n_15
        exact W.iret (v := (-2)) hx hb hr (fun t ht hW => ⟨⟨(-2), (), rfl, hpost, trivial⟩, hS.F ht⟩) hS.2.2 dX6_pebblesBy_31
theorem pp_X6_taken_0_1 (v0 : Int32) (v1 : Int32) (p_4 : 0 ≤ v1 ∧ v1 ≤ 6) (p_9 : 0 ≤ v0 ∧ v0 ≤ 9) (c_11 : v0 < 6) : ((-11) : Int64) = (if 0 ≤ v1 ∧ v1 ≤ 6 then (if 0 ≤ v0 ∧ v0 ≤ 9 then -11 else -12) else -2) := by
  first
    | rfl
    | exact bz_pos (by (first | omega | (simp only [Int32.lt_iff_toInt_lt, Int32.le_iff_toInt_le, ← Int32.toInt_inj, Int32.reduceToInt] at * <;> omega)))
    | exact bz_neg (by (first | omega | (simp only [Int32.lt_iff_toInt_lt, Int32.le_iff_toInt_le, ← Int32.toInt_inj, Int32.reduceToInt] at * <;> omega)))
    | ((repeat' split) <;> first | rfl | assumption | (symm; assumption) | (exfalso; (first | omega | (simp only [Int32.lt_iff_toInt_lt, Int32.le_iff_toInt_le, ← Int32.toInt_inj, Int32.reduceToInt] at * <;> omega))))
theorem pp_X6_taken_0_2 (v0 : Int32) (v1 : Int32) (p_4 : 0 ≤ v1 ∧ v1 ≤ 6) (p_9 : 0 ≤ v0 ∧ v0 ≤ 9) (c_11 : ¬ (v0 < 6)) : ((-11) : Int64) = (if 0 ≤ v1 ∧ v1 ≤ 6 then (if 0 ≤ v0 ∧ v0 ≤ 9 then -11 else -12) else -2) := by
  first
    | rfl
    | exact bz_pos (by (first | omega | (simp only [Int32.lt_iff_toInt_lt, Int32.le_iff_toInt_le, ← Int32.toInt_inj, Int32.reduceToInt] at * <;> omega)))
    | exact bz_neg (by (first | omega | (simp only [Int32.lt_iff_toInt_lt, Int32.le_iff_toInt_le, ← Int32.toInt_inj, Int32.reduceToInt] at * <;> omega)))
    | ((repeat' split) <;> first | rfl | assumption | (symm; assumption) | (exfalso; (first | omega | (simp only [Int32.lt_iff_toInt_lt, Int32.le_iff_toInt_le, ← Int32.toInt_inj, Int32.reduceToInt] at * <;> omega))))
theorem pp_X6_taken_0_3 (v0 : Int32) (v1 : Int32) (p_4 : 0 ≤ v1 ∧ v1 ≤ 6) (n_10 : ¬ (0 ≤ v0 ∧ v0 ≤ 9)) : ((-12) : Int64) = (if 0 ≤ v1 ∧ v1 ≤ 6 then (if 0 ≤ v0 ∧ v0 ≤ 9 then -11 else -12) else -2) := by
  first
    | rfl
    | exact bz_pos (by (first | omega | (simp only [Int32.lt_iff_toInt_lt, Int32.le_iff_toInt_le, ← Int32.toInt_inj, Int32.reduceToInt] at * <;> omega)))
    | exact bz_neg (by (first | omega | (simp only [Int32.lt_iff_toInt_lt, Int32.le_iff_toInt_le, ← Int32.toInt_inj, Int32.reduceToInt] at * <;> omega)))
    | ((repeat' split) <;> first | rfl | assumption | (symm; assumption) | (exfalso; (first | omega | (simp only [Int32.lt_iff_toInt_lt, Int32.le_iff_toInt_le, ← Int32.toInt_inj, Int32.reduceToInt] at * <;> omega))))
theorem pp_X6_taken_0_4 (v0 : Int32) (v1 : Int32) (n_5 : ¬ (0 ≤ v1 ∧ v1 ≤ 6)) : ((-2) : Int64) = (if 0 ≤ v1 ∧ v1 ≤ 6 then (if 0 ≤ v0 ∧ v0 ≤ 9 then -11 else -12) else -2) := by
  first
    | rfl
    | exact bz_pos (by (first | omega | (simp only [Int32.lt_iff_toInt_lt, Int32.le_iff_toInt_le, ← Int32.toInt_inj, Int32.reduceToInt] at * <;> omega)))
    | exact bz_neg (by (first | omega | (simp only [Int32.lt_iff_toInt_lt, Int32.le_iff_toInt_le, ← Int32.toInt_inj, Int32.reduceToInt] at * <;> omega)))
    | ((repeat' split) <;> first | rfl | assumption | (symm; assumption) | (exfalso; (first | omega | (simp only [Int32.lt_iff_toInt_lt, Int32.le_iff_toInt_le, ← Int32.toInt_inj, Int32.reduceToInt] at * <;> omega))))
abbrev q_X6_taken_0 (G : gG) (h0 kd mo st ro tp cd sr ir ih ss sq ce lw wo he sk na kp gb go fa ga vo : Nat) (v0 : Int32) (v1 : Int32) (A : Nat → Prop) : Array Value → State → Outcome → State → Prop := va_Ql (fun (r : Int64) (u : Unit) => match u with | _ => r = (if 0 ≤ v1 ∧ v1 ≤ 6 then (if 0 ≤ v0 ∧ v0 ≤ 9 then -11 else -12) else -2)) (fun (u : Unit) t => match u with | _ => True) A
set_option maxHeartbeats 4000000 in
set_option maxRecDepth 100000 in
theorem c_X6_taken_0 (l : Launch) (G : gG) (h0 kd mo st ro tp cd sr ir ih ss sq ce lw wo he sk na kp gb go fa ga vo : Nat) (v0 : Int32) (v1 : Int32) (sz : Nat) : Met l yX6_taken wsX6_taken ({ frames := 1, cells := 0, slots := 0, locals := 22 }) (gPre G [.ref h0, .int v0, .int v1] [(h0, .inr (6, [.int 0, .ref kd, .ref mo, .ref st, .int 0, .ref ro, .ref tp, .int 0, .ref cd, .ref sr, .int 1, .int 0, .int 0, .ref ir, .ref ih, .ref ss, .ref sq, .ref ce, .ref lw, .int 40, .int 40, .int 0, .int 0, .ref wo, .ref he, .int 0, .int 0, .int 5, .ref sk, .ref na, .ref kp, .int 0, .int 0, .int 0, .int 0, .ref gb, .ref go, .ref fa, .ref ga, .int 0, .int 0, .ref vo]))] sz) (q_X6_taken_0 G h0 kd mo st ro tp cd sr ir ih ss sq ce lw wo he sk na kp gb go fa ga vo v0 v1 (va_A [(h0, .inr (6, [.int 0, .ref kd, .ref mo, .ref st, .int 0, .ref ro, .ref tp, .int 0, .ref cd, .ref sr, .int 1, .int 0, .int 0, .ref ir, .ref ih, .ref ss, .ref sq, .ref ce, .ref lw, .int 40, .int 40, .int 0, .int 0, .ref wo, .ref he, .int 0, .int 0, .int 5, .ref sk, .ref na, .ref kp, .int 0, .int 0, .int 0, .int 0, .ref gb, .ref go, .ref fa, .ref ga, .int 0, .int 0, .ref vo]))] sz)) 0 0 (va_A [(h0, .inr (6, [.int 0, .ref kd, .ref mo, .ref st, .int 0, .ref ro, .ref tp, .int 0, .ref cd, .ref sr, .int 1, .int 0, .int 0, .ref ir, .ref ih, .ref ss, .ref sq, .ref ce, .ref lw, .int 40, .int 40, .int 0, .int 0, .ref wo, .ref he, .int 0, .int 0, .int 5, .ref sk, .ref na, .ref kp, .int 0, .int 0, .int 0, .int 0, .ref gb, .ref go, .ref fa, .ref ga, .int 0, .int 0, .ref vo]))] sz) := by
  refine Met.ofW (cc := cX6_taken) (maxL := 3) (ret := (some .long)) (by decide) rfl ?_
  intro p e s m args below meth c s₁ B hml hv
  obtain ⟨rfl, hsz, hP, hK, hD0⟩ := hv
  have hx := B.exec
  have hb := B.bytes
  have hr := B.returns
  have hts := atoms_spec (ws := wsX6_taken) B.pre
  have hown : s.vm.findClass RX6 = some m.cls := findClass_of_methodNamed B.named
  have hlocks := B.notSynchronized
  subst hsz
  have hD := hD0.self (sz := s.heap.size)
  generalize hAe : va_A [(h0, .inr (6, [.int 0, .ref kd, .ref mo, .ref st, .int 0, .ref ro, .ref tp, .int 0, .ref cd, .ref sr, .int 1, .int 0, .int 0, .ref ir, .ref ih, .ref ss, .ref sq, .ref ce, .ref lw, .int 40, .int 40, .int 0, .int 0, .ref wo, .ref he, .int 0, .int 0, .int 5, .ref sk, .ref na, .ref kp, .int 0, .int 0, .int 0, .int 0, .ref gb, .ref go, .ref fa, .ref ga, .int 0, .int 0, .ref vo]))] s.heap.size = A at hD ⊢
  have hA : ∀ q : Nat, s.heap.size ≤ q → A q := fun q h => by rw [← hAe]; exact Or.inr h
  have hS : va_S A s.heap s.heap [] := va_S.rf
  have hP : va_P G.1 vwCl [(h0, .inr (6, [.int 0, .ref kd, .ref mo, .ref st, .int 0, .ref ro, .ref tp, .int 0, .ref cd, .ref sr, .int 1, .int 0, .int 0, .ref ir, .ref ih, .ref ss, .ref sq, .ref ce, .ref lw, .int 40, .int 40, .int 0, .int 0, .ref wo, .ref he, .int 0, .int 0, .int 5, .ref sk, .ref na, .ref kp, .int 0, .int 0, .int 0, .int 0, .ref gb, .ref go, .ref fa, .ref ga, .int 0, .int 0, .ref vo]))] s.heap := hP
  have hD : va_D A [(h0, .inr (6, [.int 0, .ref kd, .ref mo, .ref st, .int 0, .ref ro, .ref tp, .int 0, .ref cd, .ref sr, .int 1, .int 0, .int 0, .ref ir, .ref ih, .ref ss, .ref sq, .ref ce, .ref lw, .int 40, .int 40, .int 0, .int 0, .ref wo, .ref he, .int 0, .int 0, .int 5, .ref sk, .ref na, .ref kp, .int 0, .int 0, .int 0, .int 0, .ref gb, .ref go, .ref fa, .ref ga, .int 0, .int 0, .ref vo]))] := hD
  have hl := lv_entry ([.ref h0, .int v0, .int v1]) (n := 3) (Nat.le_of_ble_eq_true rfl)
  rw [lg_entry_eq]
  generalize (lg_sl ([.ref h0, .int v0, .int v1]) ++ List.replicate (3 - (lg_sl ([.ref h0, .int v0, .int v1])).length) Slot.unset).toArray = ls at hl ⊢
  have hl : lv_has ls 3 [(0, .ref h0), (1, .int v0), (2, .int v1)] := hl
  have kf88 := hts (.fieldLink RX6 88 "PebbleInShoeModel" "pebbles" "I") (by decide +kernel)
  have hiX6 := (by decide +kernel : ∀ w ∈ wsX60, w ∈ wsX6_taken)
  have kf95 := hts (.fieldLink RX6 95 "PebbleInShoeModel" "judges" "I") (by decide +kernel)
  refine lv_iload_n hx hb dX6_taken_0 rfl (lv_at hl 2 rfl) ?_
  refine lv_iconst (v := 0) hx hb dX6_taken_1 (by decide) ?_
  refine lv_bipush (v := 6) hx hb dX6_taken_2 (by decide) ?_
  have hPc : va_P G.1 vwCl [] s.heap := hP.sub [] rfl
  have hDc : va_D A [] := hD.sub [] (by decide) rfl
  have hFc := va_free (wc := []) hD hS hA [] rfl
  refine va_calli (va_runS (As := [.int v1, .int 0, .int 6]) (rest := []) ⟨hx, hb, hml, hown, hts⟩ (c_X6_in l G v1 0 6 s.heap.size) (va_cwS 3 hts gX6_taken_X6_in rfl rfl rfl (by decide +kernel) ⟨Nat.le_of_ble_eq_true rfl, Nat.le_of_ble_eq_true rfl⟩) ⟨gPre_blind, fun U hU hW => gPre_of hU hW hK hPc hDc⟩ rfl rfl hl.1 rfl (lv_room (Nat.le_of_ble_eq_true rfl)) dX6_taken_4 ⟨Nat.le_of_ble_eq_true rfl, Nat.le_of_ble_eq_true rfl⟩) hS (fun q _ h => hFc q h) hFc (fun r_1 u t H locs ht hvm w_2 hB hz1 hk1 hS => ?_)
  obtain ⟨hP1, hK1, hD1⟩ := hB
  rw [ht] at hP1
  have hP1 : va_P G.1 vwCl [] H := hP1
  have hD1 : va_D (va_A [] s.heap.size) [] := hD1
  have w_2 : r_1 = bz (decide (0 ≤ v1 ∧ v1 ≤ 6)) := w_2
  obtain ⟨hP, hD⟩ := va_join (wr := [(h0, .inr (6, [.int 0, .ref kd, .ref mo, .ref st, .int 0, .ref ro, .ref tp, .int 0, .ref cd, .ref sr, .int 1, .int 0, .int 0, .ref ir, .ref ih, .ref ss, .ref sq, .ref ce, .ref lw, .int 40, .int 40, .int 0, .int 0, .ref wo, .ref he, .int 0, .int 0, .int 5, .ref sk, .ref na, .ref kp, .int 0, .int 0, .int 0, .int 0, .ref gb, .ref go, .ref fa, .ref ga, .int 0, .int 0, .ref vo]))]) (w1 := []) hP hD [] [0] rfl rfl (by decide) (by decide) hk1 hFc hP1 hD1
  have hP : va_P G.1 vwCl [(h0, .inr (6, [.int 0, .ref kd, .ref mo, .ref st, .int 0, .ref ro, .ref tp, .int 0, .ref cd, .ref sr, .int 1, .int 0, .int 0, .ref ir, .ref ih, .ref ss, .ref sq, .ref ce, .ref lw, .int 40, .int 40, .int 0, .int 0, .ref wo, .ref he, .int 0, .int 0, .int 5, .ref sk, .ref na, .ref kp, .int 0, .int 0, .int 0, .int 0, .ref gb, .ref go, .ref fa, .ref ga, .int 0, .int 0, .ref vo]))] H := hP
  have hD : va_D A [(h0, .inr (6, [.int 0, .ref kd, .ref mo, .ref st, .int 0, .ref ro, .ref tp, .int 0, .ref cd, .ref sr, .int 1, .int 0, .int 0, .ref ir, .ref ih, .ref ss, .ref sq, .ref ce, .ref lw, .int 40, .int 40, .int 0, .int 0, .ref wo, .ref he, .int 0, .int 0, .int 5, .ref sk, .ref na, .ref kp, .int 0, .int 0, .int 0, .int 0, .ref gb, .ref go, .ref fa, .ref ga, .int 0, .int 0, .ref vo]))] := hD
  refine lv_if_ne (tgt := 14) hx hb dX6_taken_7 (by decide) (fun c_3 => ?_) (fun c_3 => ?_)
  · skip
    have p_4 : 0 ≤ v1 ∧ v1 ≤ 6 := of_decide_eq_true (bz_ne w_2 c_3)
    refine lv_iload_n hx hb dX6_taken_14 rfl (lv_at hl 1 rfl) ?_
    refine lv_iconst (v := 0) hx hb dX6_taken_15 (by decide) ?_
    refine lv_bipush (v := 9) hx hb dX6_taken_16 (by decide) ?_
    have hPc : va_P G.1 vwCl [] H := hP.sub [] rfl
    have hDc : va_D A [] := hD.sub [] (by decide) rfl
    have hFc := va_free (wc := []) hD hS hA [] rfl
    refine va_calli (va_runS (As := [.int v0, .int 0, .int 9]) (rest := []) ⟨hx, hb, hml, hown, hts⟩ (c_X6_in l G v0 0 9 H.size) (va_cwS 3 hts gX6_taken_X6_in rfl rfl rfl (by decide +kernel) ⟨Nat.le_of_ble_eq_true rfl, Nat.le_of_ble_eq_true rfl⟩) ⟨gPre_blind, fun U hU hW => gPre_of hU hW hK hPc hDc⟩ rfl rfl hl.1 rfl (lv_room (Nat.le_of_ble_eq_true rfl)) dX6_taken_18 ⟨Nat.le_of_ble_eq_true rfl, Nat.le_of_ble_eq_true rfl⟩) hS (fun q _ h => hFc q h) hFc (fun r_6 u t H locs ht hvm w_7 hB hz1 hk1 hS => ?_)
    obtain ⟨hP1, hK1, hD1⟩ := hB
    rw [ht] at hP1
    have hP1 : va_P G.1 vwCl [] H := hP1
    have hD1 : va_D (va_A [] _) [] := hD1
    have w_7 : r_6 = bz (decide (0 ≤ v0 ∧ v0 ≤ 9)) := w_7
    obtain ⟨hP, hD⟩ := va_join (wr := [(h0, .inr (6, [.int 0, .ref kd, .ref mo, .ref st, .int 0, .ref ro, .ref tp, .int 0, .ref cd, .ref sr, .int 1, .int 0, .int 0, .ref ir, .ref ih, .ref ss, .ref sq, .ref ce, .ref lw, .int 40, .int 40, .int 0, .int 0, .ref wo, .ref he, .int 0, .int 0, .int 5, .ref sk, .ref na, .ref kp, .int 0, .int 0, .int 0, .int 0, .ref gb, .ref go, .ref fa, .ref ga, .int 0, .int 0, .ref vo]))]) (w1 := []) hP hD [] [0] rfl rfl (by decide) (by decide) hk1 hFc hP1 hD1
    have hP : va_P G.1 vwCl [(h0, .inr (6, [.int 0, .ref kd, .ref mo, .ref st, .int 0, .ref ro, .ref tp, .int 0, .ref cd, .ref sr, .int 1, .int 0, .int 0, .ref ir, .ref ih, .ref ss, .ref sq, .ref ce, .ref lw, .int 40, .int 40, .int 0, .int 0, .ref wo, .ref he, .int 0, .int 0, .int 5, .ref sk, .ref na, .ref kp, .int 0, .int 0, .int 0, .int 0, .ref gb, .ref go, .ref fa, .ref ga, .int 0, .int 0, .ref vo]))] H := hP
    have hD : va_D A [(h0, .inr (6, [.int 0, .ref kd, .ref mo, .ref st, .int 0, .ref ro, .ref tp, .int 0, .ref cd, .ref sr, .int 1, .int 0, .int 0, .ref ir, .ref ih, .ref ss, .ref sq, .ref ce, .ref lw, .int 40, .int 40, .int 0, .int 0, .ref wo, .ref he, .int 0, .int 0, .int 5, .ref sk, .ref na, .ref kp, .int 0, .int 0, .int 0, .int 0, .ref gb, .ref go, .ref fa, .ref ga, .int 0, .int 0, .ref vo]))] := hD
    refine lv_if_ne (tgt := 28) hx hb dX6_taken_21 (by decide) (fun c_8 => ?_) (fun c_8 => ?_)
    · skip
      have p_9 : 0 ≤ v0 ∧ v0 ≤ 9 := of_decide_eq_true (bz_ne w_7 c_8)
      refine lv_iload_n hx hb dX6_taken_28 rfl (lv_at hl 1 rfl) ?_
      refine lv_bipush (v := 6) hx hb dX6_taken_29 (by decide) ?_
      refine lv_icmp_lt (tgt := 78) hx hb dX6_taken_31 (by decide) (fun c_11 => ?_) (fun c_11 => ?_)
      · skip
        refine lv_iload_n hx hb dX6_taken_78 rfl (lv_at hl 1 rfl) ?_
        refine lv_aload_n hx hb dX6_taken_79 rfl (lv_at hl 0 rfl) ?_
        refine va_get (D := G.1) (ci := 6) (v := .int 0) (C := RX6) (T := TX6) (N := 42) hx hb hts hiX6 hown hK hP 0 rfl rfl 0 (by decide) kf88 (fun _ h9 => h9) rfl dX6_taken_80 ?_
        refine lv_icmp_lt (tgt := 92) hx hb dX6_taken_83 (by decide) (fun c_12 => ?_) (fun c_12 => ?_)
        · exact absurd c_12 (g_nlt0 (by assumption))
        refine lv_ldc2 hx hb hown (hts (.constantLong RX6 284 (-11)) (by decide +kernel)) dX6_taken_86 ?_
        refine lv_goto (tgt := 119) hx hb dX6_taken_89 (by decide) ?_
        have hpost : (fun (r : Int64) (u : Unit) => match u with | _ => r = (if 0 ≤ v1 ∧ v1 ≤ 6 then (if 0 ≤ v0 ∧ v0 ≤ 9 then -11 else -12) else -2)) (-11) () := pp_X6_taken_0_1 v0 v1 p_4 p_9 c_11
        exact W.lret (v := (-11)) hx hb hr (fun t ht hW => ⟨⟨(-11), (), rfl, hpost, trivial⟩, hS.F ht⟩) hS.2.2 dX6_taken_119
      · skip
        refine lv_iload_n hx hb dX6_taken_34 rfl (lv_at hl 1 rfl) ?_
        refine lv_bipush (v := 6) hx hb dX6_taken_35 (by decide) ?_
        refine lv_isub hx hb dX6_taken_37 ?_
        refine lv_aload_n hx hb dX6_taken_38 rfl (lv_at hl 0 rfl) ?_
        refine va_get (D := G.1) (ci := 6) (v := .int 0) (C := RX6) (T := TX6) (N := 42) hx hb hts hiX6 hown hK hP 0 rfl rfl 4 (by decide) kf95 (fun _ h9 => h9) rfl dX6_taken_39 ?_
        refine lv_icmp_lt (tgt := 51) hx hb dX6_taken_42 (by decide) (fun c_13 => ?_) (fun c_13 => ?_)
        · exact absurd c_13 (g_sub6 (by assumption) (by assumption))
        refine lv_ldc2 hx hb hown (hts (.constantLong RX6 284 (-11)) (by decide +kernel)) dX6_taken_45 ?_
        refine lv_goto (tgt := 77) hx hb dX6_taken_48 (by decide) ?_
        have hpost : (fun (r : Int64) (u : Unit) => match u with | _ => r = (if 0 ≤ v1 ∧ v1 ≤ 6 then (if 0 ≤ v0 ∧ v0 ≤ 9 then -11 else -12) else -2)) (-11) () := pp_X6_taken_0_2 v0 v1 p_4 p_9 c_11
        exact W.lret (v := (-11)) hx hb hr (fun t ht hW => ⟨⟨(-11), (), rfl, hpost, trivial⟩, hS.F ht⟩) hS.2.2 dX6_taken_77
    · skip
      have n_10 : ¬ (0 ≤ v0 ∧ v0 ≤ 9) := of_decide_eq_false (bz_eq w_7 c_8)
      refine lv_ldc2 hx hb hown (hts (.constantLong RX6 282 (-12)) (by decide +kernel)) dX6_taken_24 ?_
      have hpost : (fun (r : Int64) (u : Unit) => match u with | _ => r = (if 0 ≤ v1 ∧ v1 ≤ 6 then (if 0 ≤ v0 ∧ v0 ≤ 9 then -11 else -12) else -2)) (-12) () := pp_X6_taken_0_3 v0 v1 p_4 n_10
      exact W.lret (v := (-12)) hx hb hr (fun t ht hW => ⟨⟨(-12), (), rfl, hpost, trivial⟩, hS.F ht⟩) hS.2.2 dX6_taken_27
  · skip
    have n_5 : ¬ (0 ≤ v1 ∧ v1 ≤ 6) := of_decide_eq_false (bz_eq w_2 c_3)
    refine lv_ldc2 hx hb hown (hts (.constantLong RX6 280 (-2)) (by decide +kernel)) dX6_taken_10 ?_
    have hpost : (fun (r : Int64) (u : Unit) => match u with | _ => r = (if 0 ≤ v1 ∧ v1 ≤ 6 then (if 0 ≤ v0 ∧ v0 ≤ 9 then -11 else -12) else -2)) (-2) () := pp_X6_taken_0_4 v0 v1 n_5
    exact W.lret (v := (-2)) hx hb hr (fun t ht hW => ⟨⟨(-2), (), rfl, hpost, trivial⟩, hS.F ht⟩) hS.2.2 dX6_taken_13
theorem pp_X6_sheet_0_1 (v0 : Int32) (v1 : Int32) (v2 : Int32) (n_5 : ¬ (0 ≤ v0 ∧ v0 ≤ 3)) : ((-2) : Int32) = (if (0 ≤ v0 ∧ v0 ≤ 3) ∧ (-1 ≤ v1 ∧ v1 ≤ 2) then (if v1 = -1 then 1 else if 40 < v2 then -2 else if v2 < 0 then -14 else 1) else -2) := by
  first
    | rfl
    | exact bz_pos (by (first | omega | (simp only [Int32.lt_iff_toInt_lt, Int32.le_iff_toInt_le, ← Int32.toInt_inj, Int32.reduceToInt] at * <;> omega)))
    | exact bz_neg (by (first | omega | (simp only [Int32.lt_iff_toInt_lt, Int32.le_iff_toInt_le, ← Int32.toInt_inj, Int32.reduceToInt] at * <;> omega)))
    | ((repeat' split) <;> first | rfl | assumption | (symm; assumption) | (exfalso; (first | omega | (simp only [Int32.lt_iff_toInt_lt, Int32.le_iff_toInt_le, ← Int32.toInt_inj, Int32.reduceToInt] at * <;> omega))))
theorem pp_X6_sheet_0_2 (v0 : Int32) (v1 : Int32) (v2 : Int32) (p_4 : 0 ≤ v0 ∧ v0 ≤ 3) (n_10 : ¬ ((-1) ≤ v1 ∧ v1 ≤ 2)) : ((-2) : Int32) = (if (0 ≤ v0 ∧ v0 ≤ 3) ∧ (-1 ≤ v1 ∧ v1 ≤ 2) then (if v1 = -1 then 1 else if 40 < v2 then -2 else if v2 < 0 then -14 else 1) else -2) := by
  first
    | rfl
    | exact bz_pos (by (first | omega | (simp only [Int32.lt_iff_toInt_lt, Int32.le_iff_toInt_le, ← Int32.toInt_inj, Int32.reduceToInt] at * <;> omega)))
    | exact bz_neg (by (first | omega | (simp only [Int32.lt_iff_toInt_lt, Int32.le_iff_toInt_le, ← Int32.toInt_inj, Int32.reduceToInt] at * <;> omega)))
    | ((repeat' split) <;> first | rfl | assumption | (symm; assumption) | (exfalso; (first | omega | (simp only [Int32.lt_iff_toInt_lt, Int32.le_iff_toInt_le, ← Int32.toInt_inj, Int32.reduceToInt] at * <;> omega))))
theorem pp_X6_sheet_0_3 (v0 : Int32) (v1 : Int32) (v2 : Int32) (p_4 : 0 ≤ v0 ∧ v0 ≤ 3) (p_9 : (-1) ≤ v1 ∧ v1 ≤ 2) (c_11 : v1 = (-1)) (c_12 : v1 = (-1)) (c_13 : ¬ (v1 = (-1))) : (1 : Int32) = (if (0 ≤ v0 ∧ v0 ≤ 3) ∧ (-1 ≤ v1 ∧ v1 ≤ 2) then (if v1 = -1 then 1 else if 40 < v2 then -2 else if v2 < 0 then -14 else 1) else -2) := by
  first
    | rfl
    | exact bz_pos (by (first | omega | (simp only [Int32.lt_iff_toInt_lt, Int32.le_iff_toInt_le, ← Int32.toInt_inj, Int32.reduceToInt] at * <;> omega)))
    | exact bz_neg (by (first | omega | (simp only [Int32.lt_iff_toInt_lt, Int32.le_iff_toInt_le, ← Int32.toInt_inj, Int32.reduceToInt] at * <;> omega)))
    | ((repeat' split) <;> first | rfl | assumption | (symm; assumption) | (exfalso; (first | omega | (simp only [Int32.lt_iff_toInt_lt, Int32.le_iff_toInt_le, ← Int32.toInt_inj, Int32.reduceToInt] at * <;> omega))))
theorem pp_X6_sheet_0_4 (v0 : Int32) (v1 : Int32) (v2 : Int32) (p_4 : 0 ≤ v0 ∧ v0 ≤ 3) (p_9 : (-1) ≤ v1 ∧ v1 ≤ 2) (c_11 : v1 = (-1)) (c_12 : v1 = (-1)) (c_13 : v1 = (-1)) : (1 : Int32) = (if (0 ≤ v0 ∧ v0 ≤ 3) ∧ (-1 ≤ v1 ∧ v1 ≤ 2) then (if v1 = -1 then 1 else if 40 < v2 then -2 else if v2 < 0 then -14 else 1) else -2) := by
  first
    | rfl
    | exact bz_pos (by (first | omega | (simp only [Int32.lt_iff_toInt_lt, Int32.le_iff_toInt_le, ← Int32.toInt_inj, Int32.reduceToInt] at * <;> omega)))
    | exact bz_neg (by (first | omega | (simp only [Int32.lt_iff_toInt_lt, Int32.le_iff_toInt_le, ← Int32.toInt_inj, Int32.reduceToInt] at * <;> omega)))
    | ((repeat' split) <;> first | rfl | assumption | (symm; assumption) | (exfalso; (first | omega | (simp only [Int32.lt_iff_toInt_lt, Int32.le_iff_toInt_le, ← Int32.toInt_inj, Int32.reduceToInt] at * <;> omega))))
theorem pp_X6_sheet_0_5 (v0 : Int32) (v1 : Int32) (v2 : Int32) (p_4 : 0 ≤ v0 ∧ v0 ≤ 3) (p_9 : (-1) ≤ v1 ∧ v1 ≤ 2) (c_11 : v1 = (-1)) (c_12 : ¬ (v1 = (-1))) (c_16 : 0 ≤ v2) (c_17 : ¬ (v1 = (-1))) : (1 : Int32) = (if (0 ≤ v0 ∧ v0 ≤ 3) ∧ (-1 ≤ v1 ∧ v1 ≤ 2) then (if v1 = -1 then 1 else if 40 < v2 then -2 else if v2 < 0 then -14 else 1) else -2) := by
  first
    | rfl
    | exact bz_pos (by (first | omega | (simp only [Int32.lt_iff_toInt_lt, Int32.le_iff_toInt_le, ← Int32.toInt_inj, Int32.reduceToInt] at * <;> omega)))
    | exact bz_neg (by (first | omega | (simp only [Int32.lt_iff_toInt_lt, Int32.le_iff_toInt_le, ← Int32.toInt_inj, Int32.reduceToInt] at * <;> omega)))
    | ((repeat' split) <;> first | rfl | assumption | (symm; assumption) | (exfalso; (first | omega | (simp only [Int32.lt_iff_toInt_lt, Int32.le_iff_toInt_le, ← Int32.toInt_inj, Int32.reduceToInt] at * <;> omega))))
theorem pp_X6_sheet_0_6 (v0 : Int32) (v1 : Int32) (v2 : Int32) (p_4 : 0 ≤ v0 ∧ v0 ≤ 3) (p_9 : (-1) ≤ v1 ∧ v1 ≤ 2) (c_11 : v1 = (-1)) (c_12 : ¬ (v1 = (-1))) (c_16 : 0 ≤ v2) (c_17 : v1 = (-1)) : (1 : Int32) = (if (0 ≤ v0 ∧ v0 ≤ 3) ∧ (-1 ≤ v1 ∧ v1 ≤ 2) then (if v1 = -1 then 1 else if 40 < v2 then -2 else if v2 < 0 then -14 else 1) else -2) := by
  first
    | rfl
    | exact bz_pos (by (first | omega | (simp only [Int32.lt_iff_toInt_lt, Int32.le_iff_toInt_le, ← Int32.toInt_inj, Int32.reduceToInt] at * <;> omega)))
    | exact bz_neg (by (first | omega | (simp only [Int32.lt_iff_toInt_lt, Int32.le_iff_toInt_le, ← Int32.toInt_inj, Int32.reduceToInt] at * <;> omega)))
    | ((repeat' split) <;> first | rfl | assumption | (symm; assumption) | (exfalso; (first | omega | (simp only [Int32.lt_iff_toInt_lt, Int32.le_iff_toInt_le, ← Int32.toInt_inj, Int32.reduceToInt] at * <;> omega))))
theorem pp_X6_sheet_0_7 (v0 : Int32) (v1 : Int32) (v2 : Int32) (p_4 : 0 ≤ v0 ∧ v0 ≤ 3) (p_9 : (-1) ≤ v1 ∧ v1 ≤ 2) (c_11 : v1 = (-1)) (c_12 : ¬ (v1 = (-1))) (c_16 : ¬ (0 ≤ v2)) : ((-14) : Int32) = (if (0 ≤ v0 ∧ v0 ≤ 3) ∧ (-1 ≤ v1 ∧ v1 ≤ 2) then (if v1 = -1 then 1 else if 40 < v2 then -2 else if v2 < 0 then -14 else 1) else -2) := by
  first
    | rfl
    | exact bz_pos (by (first | omega | (simp only [Int32.lt_iff_toInt_lt, Int32.le_iff_toInt_le, ← Int32.toInt_inj, Int32.reduceToInt] at * <;> omega)))
    | exact bz_neg (by (first | omega | (simp only [Int32.lt_iff_toInt_lt, Int32.le_iff_toInt_le, ← Int32.toInt_inj, Int32.reduceToInt] at * <;> omega)))
    | ((repeat' split) <;> first | rfl | assumption | (symm; assumption) | (exfalso; (first | omega | (simp only [Int32.lt_iff_toInt_lt, Int32.le_iff_toInt_le, ← Int32.toInt_inj, Int32.reduceToInt] at * <;> omega))))
theorem pp_X6_sheet_0_8 (v0 : Int32) (v1 : Int32) (v2 : Int32) (p_4 : 0 ≤ v0 ∧ v0 ≤ 3) (p_9 : (-1) ≤ v1 ∧ v1 ≤ 2) (c_11 : ¬ (v1 = (-1))) (c_20 : v2 ≤ 40) (c_21 : v1 = (-1)) (c_22 : ¬ (v1 = (-1))) : (1 : Int32) = (if (0 ≤ v0 ∧ v0 ≤ 3) ∧ (-1 ≤ v1 ∧ v1 ≤ 2) then (if v1 = -1 then 1 else if 40 < v2 then -2 else if v2 < 0 then -14 else 1) else -2) := by
  first
    | rfl
    | exact bz_pos (by (first | omega | (simp only [Int32.lt_iff_toInt_lt, Int32.le_iff_toInt_le, ← Int32.toInt_inj, Int32.reduceToInt] at * <;> omega)))
    | exact bz_neg (by (first | omega | (simp only [Int32.lt_iff_toInt_lt, Int32.le_iff_toInt_le, ← Int32.toInt_inj, Int32.reduceToInt] at * <;> omega)))
    | ((repeat' split) <;> first | rfl | assumption | (symm; assumption) | (exfalso; (first | omega | (simp only [Int32.lt_iff_toInt_lt, Int32.le_iff_toInt_le, ← Int32.toInt_inj, Int32.reduceToInt] at * <;> omega))))
theorem pp_X6_sheet_0_9 (v0 : Int32) (v1 : Int32) (v2 : Int32) (p_4 : 0 ≤ v0 ∧ v0 ≤ 3) (p_9 : (-1) ≤ v1 ∧ v1 ≤ 2) (c_11 : ¬ (v1 = (-1))) (c_20 : v2 ≤ 40) (c_21 : v1 = (-1)) (c_22 : v1 = (-1)) : (1 : Int32) = (if (0 ≤ v0 ∧ v0 ≤ 3) ∧ (-1 ≤ v1 ∧ v1 ≤ 2) then (if v1 = -1 then 1 else if 40 < v2 then -2 else if v2 < 0 then -14 else 1) else -2) := by
  first
    | rfl
    | exact bz_pos (by (first | omega | (simp only [Int32.lt_iff_toInt_lt, Int32.le_iff_toInt_le, ← Int32.toInt_inj, Int32.reduceToInt] at * <;> omega)))
    | exact bz_neg (by (first | omega | (simp only [Int32.lt_iff_toInt_lt, Int32.le_iff_toInt_le, ← Int32.toInt_inj, Int32.reduceToInt] at * <;> omega)))
    | ((repeat' split) <;> first | rfl | assumption | (symm; assumption) | (exfalso; (first | omega | (simp only [Int32.lt_iff_toInt_lt, Int32.le_iff_toInt_le, ← Int32.toInt_inj, Int32.reduceToInt] at * <;> omega))))
theorem pp_X6_sheet_0_10 (v0 : Int32) (v1 : Int32) (v2 : Int32) (p_4 : 0 ≤ v0 ∧ v0 ≤ 3) (p_9 : (-1) ≤ v1 ∧ v1 ≤ 2) (c_11 : ¬ (v1 = (-1))) (c_20 : v2 ≤ 40) (c_21 : ¬ (v1 = (-1))) (c_25 : 0 ≤ v2) (c_26 : ¬ (v1 = (-1))) : (1 : Int32) = (if (0 ≤ v0 ∧ v0 ≤ 3) ∧ (-1 ≤ v1 ∧ v1 ≤ 2) then (if v1 = -1 then 1 else if 40 < v2 then -2 else if v2 < 0 then -14 else 1) else -2) := by
  first
    | rfl
    | exact bz_pos (by (first | omega | (simp only [Int32.lt_iff_toInt_lt, Int32.le_iff_toInt_le, ← Int32.toInt_inj, Int32.reduceToInt] at * <;> omega)))
    | exact bz_neg (by (first | omega | (simp only [Int32.lt_iff_toInt_lt, Int32.le_iff_toInt_le, ← Int32.toInt_inj, Int32.reduceToInt] at * <;> omega)))
    | ((repeat' split) <;> first | rfl | assumption | (symm; assumption) | (exfalso; (first | omega | (simp only [Int32.lt_iff_toInt_lt, Int32.le_iff_toInt_le, ← Int32.toInt_inj, Int32.reduceToInt] at * <;> omega))))
theorem pp_X6_sheet_0_11 (v0 : Int32) (v1 : Int32) (v2 : Int32) (p_4 : 0 ≤ v0 ∧ v0 ≤ 3) (p_9 : (-1) ≤ v1 ∧ v1 ≤ 2) (c_11 : ¬ (v1 = (-1))) (c_20 : v2 ≤ 40) (c_21 : ¬ (v1 = (-1))) (c_25 : 0 ≤ v2) (c_26 : v1 = (-1)) : (1 : Int32) = (if (0 ≤ v0 ∧ v0 ≤ 3) ∧ (-1 ≤ v1 ∧ v1 ≤ 2) then (if v1 = -1 then 1 else if 40 < v2 then -2 else if v2 < 0 then -14 else 1) else -2) := by
  first
    | rfl
    | exact bz_pos (by (first | omega | (simp only [Int32.lt_iff_toInt_lt, Int32.le_iff_toInt_le, ← Int32.toInt_inj, Int32.reduceToInt] at * <;> omega)))
    | exact bz_neg (by (first | omega | (simp only [Int32.lt_iff_toInt_lt, Int32.le_iff_toInt_le, ← Int32.toInt_inj, Int32.reduceToInt] at * <;> omega)))
    | ((repeat' split) <;> first | rfl | assumption | (symm; assumption) | (exfalso; (first | omega | (simp only [Int32.lt_iff_toInt_lt, Int32.le_iff_toInt_le, ← Int32.toInt_inj, Int32.reduceToInt] at * <;> omega))))
theorem pp_X6_sheet_0_12 (v0 : Int32) (v1 : Int32) (v2 : Int32) (p_4 : 0 ≤ v0 ∧ v0 ≤ 3) (p_9 : (-1) ≤ v1 ∧ v1 ≤ 2) (c_11 : ¬ (v1 = (-1))) (c_20 : v2 ≤ 40) (c_21 : ¬ (v1 = (-1))) (c_25 : ¬ (0 ≤ v2)) : ((-14) : Int32) = (if (0 ≤ v0 ∧ v0 ≤ 3) ∧ (-1 ≤ v1 ∧ v1 ≤ 2) then (if v1 = -1 then 1 else if 40 < v2 then -2 else if v2 < 0 then -14 else 1) else -2) := by
  first
    | rfl
    | exact bz_pos (by (first | omega | (simp only [Int32.lt_iff_toInt_lt, Int32.le_iff_toInt_le, ← Int32.toInt_inj, Int32.reduceToInt] at * <;> omega)))
    | exact bz_neg (by (first | omega | (simp only [Int32.lt_iff_toInt_lt, Int32.le_iff_toInt_le, ← Int32.toInt_inj, Int32.reduceToInt] at * <;> omega)))
    | ((repeat' split) <;> first | rfl | assumption | (symm; assumption) | (exfalso; (first | omega | (simp only [Int32.lt_iff_toInt_lt, Int32.le_iff_toInt_le, ← Int32.toInt_inj, Int32.reduceToInt] at * <;> omega))))
theorem pp_X6_sheet_0_13 (v0 : Int32) (v1 : Int32) (v2 : Int32) (p_4 : 0 ≤ v0 ∧ v0 ≤ 3) (p_9 : (-1) ≤ v1 ∧ v1 ≤ 2) (c_11 : ¬ (v1 = (-1))) (c_20 : ¬ (v2 ≤ 40)) : ((-2) : Int32) = (if (0 ≤ v0 ∧ v0 ≤ 3) ∧ (-1 ≤ v1 ∧ v1 ≤ 2) then (if v1 = -1 then 1 else if 40 < v2 then -2 else if v2 < 0 then -14 else 1) else -2) := by
  first
    | rfl
    | exact bz_pos (by (first | omega | (simp only [Int32.lt_iff_toInt_lt, Int32.le_iff_toInt_le, ← Int32.toInt_inj, Int32.reduceToInt] at * <;> omega)))
    | exact bz_neg (by (first | omega | (simp only [Int32.lt_iff_toInt_lt, Int32.le_iff_toInt_le, ← Int32.toInt_inj, Int32.reduceToInt] at * <;> omega)))
    | ((repeat' split) <;> first | rfl | assumption | (symm; assumption) | (exfalso; (first | omega | (simp only [Int32.lt_iff_toInt_lt, Int32.le_iff_toInt_le, ← Int32.toInt_inj, Int32.reduceToInt] at * <;> omega))))
abbrev q_X6_sheet_0 (G : gG) (h0 kd mo st ro tp cd sr ir ih ss sq ce lw wo he sk na kp gb go fa ga vo : Nat) (v0 : Int32) (v1 : Int32) (v2 : Int32) (A : Nat → Prop) : Array Value → State → Outcome → State → Prop := va_Qi (fun (r : Int32) (u : Unit) => match u with | _ => r = (if (0 ≤ v0 ∧ v0 ≤ 3) ∧ (-1 ≤ v1 ∧ v1 ≤ 2) then (if v1 = -1 then 1 else if 40 < v2 then -2 else if v2 < 0 then -14 else 1) else -2)) (fun (u : Unit) t => match u with | _ => True) A
set_option maxHeartbeats 4000000 in
set_option maxRecDepth 100000 in
theorem c_X6_sheet_0 (l : Launch) (G : gG) (h0 kd mo st ro tp cd sr ir ih ss sq ce lw wo he sk na kp gb go fa ga vo : Nat) (v0 : Int32) (v1 : Int32) (v2 : Int32) (sz : Nat) : Met l yX6_sheet wsX6_sheet ({ frames := 1, cells := 0, slots := 0, locals := 22 }) (gPre G [.ref h0, .int v0, .int v1, .int v2] [(h0, .inr (6, [.int 0, .ref kd, .ref mo, .ref st, .int 0, .ref ro, .ref tp, .int 0, .ref cd, .ref sr, .int 1, .int 0, .int 0, .ref ir, .ref ih, .ref ss, .ref sq, .ref ce, .ref lw, .int 40, .int 40, .int 0, .int 0, .ref wo, .ref he, .int 0, .int 0, .int 5, .ref sk, .ref na, .ref kp, .int 0, .int 0, .int 0, .int 0, .ref gb, .ref go, .ref fa, .ref ga, .int 0, .int 0, .ref vo])), (ss, .inl (G.2.1, 4, .inl (upd (upd (upd (upd (fun _ => 0) 0 (-1)) 1 (-1)) 2 (-1)) 3 (-1)))), (sq, .inl (G.2.1, 4, .inl (fun _ => 0))), (ce, .inl (G.2.1, 160, .inl (fun _ => 0)))] sz) (q_X6_sheet_0 G h0 kd mo st ro tp cd sr ir ih ss sq ce lw wo he sk na kp gb go fa ga vo v0 v1 v2 (va_A [(h0, .inr (6, [.int 0, .ref kd, .ref mo, .ref st, .int 0, .ref ro, .ref tp, .int 0, .ref cd, .ref sr, .int 1, .int 0, .int 0, .ref ir, .ref ih, .ref ss, .ref sq, .ref ce, .ref lw, .int 40, .int 40, .int 0, .int 0, .ref wo, .ref he, .int 0, .int 0, .int 5, .ref sk, .ref na, .ref kp, .int 0, .int 0, .int 0, .int 0, .ref gb, .ref go, .ref fa, .ref ga, .int 0, .int 0, .ref vo])), (ss, .inl (G.2.1, 4, .inl (upd (upd (upd (upd (fun _ => 0) 0 (-1)) 1 (-1)) 2 (-1)) 3 (-1)))), (sq, .inl (G.2.1, 4, .inl (fun _ => 0))), (ce, .inl (G.2.1, 160, .inl (fun _ => 0)))] sz)) 0 0 (va_A [(h0, .inr (6, [.int 0, .ref kd, .ref mo, .ref st, .int 0, .ref ro, .ref tp, .int 0, .ref cd, .ref sr, .int 1, .int 0, .int 0, .ref ir, .ref ih, .ref ss, .ref sq, .ref ce, .ref lw, .int 40, .int 40, .int 0, .int 0, .ref wo, .ref he, .int 0, .int 0, .int 5, .ref sk, .ref na, .ref kp, .int 0, .int 0, .int 0, .int 0, .ref gb, .ref go, .ref fa, .ref ga, .int 0, .int 0, .ref vo])), (ss, .inl (G.2.1, 4, .inl (upd (upd (upd (upd (fun _ => 0) 0 (-1)) 1 (-1)) 2 (-1)) 3 (-1)))), (sq, .inl (G.2.1, 4, .inl (fun _ => 0))), (ce, .inl (G.2.1, 160, .inl (fun _ => 0)))] sz) := by
  refine Met.ofW (cc := cX6_sheet) (maxL := 5) (ret := (some .int)) (by decide) rfl ?_
  intro p e s m args below meth c s₁ B hml hv
  obtain ⟨rfl, hsz, hP, hK, hD0⟩ := hv
  have hx := B.exec
  have hb := B.bytes
  have hr := B.returns
  have hts := atoms_spec (ws := wsX6_sheet) B.pre
  have hown : s.vm.findClass RX6 = some m.cls := findClass_of_methodNamed B.named
  have hlocks := B.notSynchronized
  subst hsz
  have hD := hD0.self (sz := s.heap.size)
  generalize hAe : va_A [(h0, .inr (6, [.int 0, .ref kd, .ref mo, .ref st, .int 0, .ref ro, .ref tp, .int 0, .ref cd, .ref sr, .int 1, .int 0, .int 0, .ref ir, .ref ih, .ref ss, .ref sq, .ref ce, .ref lw, .int 40, .int 40, .int 0, .int 0, .ref wo, .ref he, .int 0, .int 0, .int 5, .ref sk, .ref na, .ref kp, .int 0, .int 0, .int 0, .int 0, .ref gb, .ref go, .ref fa, .ref ga, .int 0, .int 0, .ref vo])), (ss, .inl (G.2.1, 4, .inl (upd (upd (upd (upd (fun _ => 0) 0 (-1)) 1 (-1)) 2 (-1)) 3 (-1)))), (sq, .inl (G.2.1, 4, .inl (fun _ => 0))), (ce, .inl (G.2.1, 160, .inl (fun _ => 0)))] s.heap.size = A at hD ⊢
  have hA : ∀ q : Nat, s.heap.size ≤ q → A q := fun q h => by rw [← hAe]; exact Or.inr h
  have hS : va_S A s.heap s.heap [] := va_S.rf
  have hP : va_P G.1 vwCl [(h0, .inr (6, [.int 0, .ref kd, .ref mo, .ref st, .int 0, .ref ro, .ref tp, .int 0, .ref cd, .ref sr, .int 1, .int 0, .int 0, .ref ir, .ref ih, .ref ss, .ref sq, .ref ce, .ref lw, .int 40, .int 40, .int 0, .int 0, .ref wo, .ref he, .int 0, .int 0, .int 5, .ref sk, .ref na, .ref kp, .int 0, .int 0, .int 0, .int 0, .ref gb, .ref go, .ref fa, .ref ga, .int 0, .int 0, .ref vo])), (ss, .inl (G.2.1, 4, .inl (upd (upd (upd (upd (fun _ => 0) 0 (-1)) 1 (-1)) 2 (-1)) 3 (-1)))), (sq, .inl (G.2.1, 4, .inl (fun _ => 0))), (ce, .inl (G.2.1, 160, .inl (fun _ => 0)))] s.heap := hP
  have hD : va_D A [(h0, .inr (6, [.int 0, .ref kd, .ref mo, .ref st, .int 0, .ref ro, .ref tp, .int 0, .ref cd, .ref sr, .int 1, .int 0, .int 0, .ref ir, .ref ih, .ref ss, .ref sq, .ref ce, .ref lw, .int 40, .int 40, .int 0, .int 0, .ref wo, .ref he, .int 0, .int 0, .int 5, .ref sk, .ref na, .ref kp, .int 0, .int 0, .int 0, .int 0, .ref gb, .ref go, .ref fa, .ref ga, .int 0, .int 0, .ref vo])), (ss, .inl (G.2.1, 4, .inl (upd (upd (upd (upd (fun _ => 0) 0 (-1)) 1 (-1)) 2 (-1)) 3 (-1)))), (sq, .inl (G.2.1, 4, .inl (fun _ => 0))), (ce, .inl (G.2.1, 160, .inl (fun _ => 0)))] := hD
  have hl := lv_entry ([.ref h0, .int v0, .int v1, .int v2]) (n := 5) (Nat.le_of_ble_eq_true rfl)
  rw [lg_entry_eq]
  generalize (lg_sl ([.ref h0, .int v0, .int v1, .int v2]) ++ List.replicate (5 - (lg_sl ([.ref h0, .int v0, .int v1, .int v2])).length) Slot.unset).toArray = ls at hl ⊢
  have hl : lv_has ls 5 [(0, .ref h0), (1, .int v0), (2, .int v1), (3, .int v2)] := hl
  have kf37 := hts (.fieldLink RX6 37 "PebbleInShoeModel" "sheetSort" "[I") (by decide +kernel)
  have hiX6 := (by decide +kernel : ∀ w ∈ wsX60, w ∈ wsX6_sheet)
  have kf40 := hts (.fieldLink RX6 40 "PebbleInShoeModel" "sheetSize" "[I") (by decide +kernel)
  have kf43 := hts (.fieldLink RX6 43 "PebbleInShoeModel" "cells" "[I") (by decide +kernel)
  refine lv_iload_n hx hb dX6_sheet_0 rfl (lv_at hl 1 rfl) ?_
  refine lv_iconst (v := 0) hx hb dX6_sheet_1 (by decide) ?_
  refine lv_iconst (v := 3) hx hb dX6_sheet_2 (by decide) ?_
  have hPc : va_P G.1 vwCl [] s.heap := hP.sub [] rfl
  have hDc : va_D A [] := hD.sub [] (by decide) rfl
  have hFc := va_free (wc := []) hD hS hA [] rfl
  refine va_calli (va_runS (As := [.int v0, .int 0, .int 3]) (rest := []) ⟨hx, hb, hml, hown, hts⟩ (c_X6_in l G v0 0 3 s.heap.size) (va_cwS 3 hts gX6_sheet_X6_in rfl rfl rfl (by decide +kernel) ⟨Nat.le_of_ble_eq_true rfl, Nat.le_of_ble_eq_true rfl⟩) ⟨gPre_blind, fun U hU hW => gPre_of hU hW hK hPc hDc⟩ rfl rfl hl.1 rfl (lv_room (Nat.le_of_ble_eq_true rfl)) dX6_sheet_3 ⟨Nat.le_of_ble_eq_true rfl, Nat.le_of_ble_eq_true rfl⟩) hS (fun q _ h => hFc q h) hFc (fun r_1 u t H locs ht hvm w_2 hB hz1 hk1 hS => ?_)
  obtain ⟨hP1, hK1, hD1⟩ := hB
  rw [ht] at hP1
  have hP1 : va_P G.1 vwCl [] H := hP1
  have hD1 : va_D (va_A [] s.heap.size) [] := hD1
  have w_2 : r_1 = bz (decide (0 ≤ v0 ∧ v0 ≤ 3)) := w_2
  obtain ⟨hP, hD⟩ := va_join (wr := [(h0, .inr (6, [.int 0, .ref kd, .ref mo, .ref st, .int 0, .ref ro, .ref tp, .int 0, .ref cd, .ref sr, .int 1, .int 0, .int 0, .ref ir, .ref ih, .ref ss, .ref sq, .ref ce, .ref lw, .int 40, .int 40, .int 0, .int 0, .ref wo, .ref he, .int 0, .int 0, .int 5, .ref sk, .ref na, .ref kp, .int 0, .int 0, .int 0, .int 0, .ref gb, .ref go, .ref fa, .ref ga, .int 0, .int 0, .ref vo])), (ss, .inl (G.2.1, 4, .inl (upd (upd (upd (upd (fun _ => 0) 0 (-1)) 1 (-1)) 2 (-1)) 3 (-1)))), (sq, .inl (G.2.1, 4, .inl (fun _ => 0))), (ce, .inl (G.2.1, 160, .inl (fun _ => 0)))]) (w1 := []) hP hD [] [0, 1, 2, 3] rfl rfl (by decide) (by decide) hk1 hFc hP1 hD1
  have hP : va_P G.1 vwCl [(h0, .inr (6, [.int 0, .ref kd, .ref mo, .ref st, .int 0, .ref ro, .ref tp, .int 0, .ref cd, .ref sr, .int 1, .int 0, .int 0, .ref ir, .ref ih, .ref ss, .ref sq, .ref ce, .ref lw, .int 40, .int 40, .int 0, .int 0, .ref wo, .ref he, .int 0, .int 0, .int 5, .ref sk, .ref na, .ref kp, .int 0, .int 0, .int 0, .int 0, .ref gb, .ref go, .ref fa, .ref ga, .int 0, .int 0, .ref vo])), (ss, .inl (G.2.1, 4, .inl (upd (upd (upd (upd (fun _ => 0) 0 (-1)) 1 (-1)) 2 (-1)) 3 (-1)))), (sq, .inl (G.2.1, 4, .inl (fun _ => 0))), (ce, .inl (G.2.1, 160, .inl (fun _ => 0)))] H := hP
  have hD : va_D A [(h0, .inr (6, [.int 0, .ref kd, .ref mo, .ref st, .int 0, .ref ro, .ref tp, .int 0, .ref cd, .ref sr, .int 1, .int 0, .int 0, .ref ir, .ref ih, .ref ss, .ref sq, .ref ce, .ref lw, .int 40, .int 40, .int 0, .int 0, .ref wo, .ref he, .int 0, .int 0, .int 5, .ref sk, .ref na, .ref kp, .int 0, .int 0, .int 0, .int 0, .ref gb, .ref go, .ref fa, .ref ga, .int 0, .int 0, .ref vo])), (ss, .inl (G.2.1, 4, .inl (upd (upd (upd (upd (fun _ => 0) 0 (-1)) 1 (-1)) 2 (-1)) 3 (-1)))), (sq, .inl (G.2.1, 4, .inl (fun _ => 0))), (ce, .inl (G.2.1, 160, .inl (fun _ => 0)))] := hD
  refine lv_if_eq (tgt := 29) hx hb dX6_sheet_6 (by decide) (fun c_3 => ?_) (fun c_3 => ?_)
  · skip
    have n_5 : ¬ (0 ≤ v0 ∧ v0 ≤ 3) := of_decide_eq_false (bz_eq w_2 c_3)
    refine lv_bipush (v := -2) hx hb dX6_sheet_29 (by decide) ?_
    have hpost : (fun (r : Int32) (u : Unit) => match u with | _ => r = (if (0 ≤ v0 ∧ v0 ≤ 3) ∧ (-1 ≤ v1 ∧ v1 ≤ 2) then (if v1 = -1 then 1 else if 40 < v2 then -2 else if v2 < 0 then -14 else 1) else -2)) (-2) () := pp_X6_sheet_0_1 v0 v1 v2 n_5
    exact W.iret (v := (-2)) hx hb hr (fun t ht hW => ⟨⟨(-2), (), rfl, hpost, trivial⟩, hS.F ht⟩) hS.2.2 dX6_sheet_31
  · skip
    have p_4 : 0 ≤ v0 ∧ v0 ≤ 3 := of_decide_eq_true (bz_ne w_2 c_3)
    refine lv_iload_n hx hb dX6_sheet_9 rfl (lv_at hl 2 rfl) ?_
    refine lv_iconst (v := -1) hx hb dX6_sheet_10 (by decide) ?_
    refine lv_iconst (v := 2) hx hb dX6_sheet_11 (by decide) ?_
    have hPc : va_P G.1 vwCl [] H := hP.sub [] rfl
    have hDc : va_D A [] := hD.sub [] (by decide) rfl
    have hFc := va_free (wc := []) hD hS hA [] rfl
    refine va_calli (va_runS (As := [.int v1, .int (-1), .int 2]) (rest := []) ⟨hx, hb, hml, hown, hts⟩ (c_X6_in l G v1 (-1) 2 H.size) (va_cwS 3 hts gX6_sheet_X6_in rfl rfl rfl (by decide +kernel) ⟨Nat.le_of_ble_eq_true rfl, Nat.le_of_ble_eq_true rfl⟩) ⟨gPre_blind, fun U hU hW => gPre_of hU hW hK hPc hDc⟩ rfl rfl hl.1 rfl (lv_room (Nat.le_of_ble_eq_true rfl)) dX6_sheet_12 ⟨Nat.le_of_ble_eq_true rfl, Nat.le_of_ble_eq_true rfl⟩) hS (fun q _ h => hFc q h) hFc (fun r_6 u t H locs ht hvm w_7 hB hz1 hk1 hS => ?_)
    obtain ⟨hP1, hK1, hD1⟩ := hB
    rw [ht] at hP1
    have hP1 : va_P G.1 vwCl [] H := hP1
    have hD1 : va_D (va_A [] _) [] := hD1
    have w_7 : r_6 = bz (decide ((-1) ≤ v1 ∧ v1 ≤ 2)) := w_7
    obtain ⟨hP, hD⟩ := va_join (wr := [(h0, .inr (6, [.int 0, .ref kd, .ref mo, .ref st, .int 0, .ref ro, .ref tp, .int 0, .ref cd, .ref sr, .int 1, .int 0, .int 0, .ref ir, .ref ih, .ref ss, .ref sq, .ref ce, .ref lw, .int 40, .int 40, .int 0, .int 0, .ref wo, .ref he, .int 0, .int 0, .int 5, .ref sk, .ref na, .ref kp, .int 0, .int 0, .int 0, .int 0, .ref gb, .ref go, .ref fa, .ref ga, .int 0, .int 0, .ref vo])), (ss, .inl (G.2.1, 4, .inl (upd (upd (upd (upd (fun _ => 0) 0 (-1)) 1 (-1)) 2 (-1)) 3 (-1)))), (sq, .inl (G.2.1, 4, .inl (fun _ => 0))), (ce, .inl (G.2.1, 160, .inl (fun _ => 0)))]) (w1 := []) hP hD [] [0, 1, 2, 3] rfl rfl (by decide) (by decide) hk1 hFc hP1 hD1
    have hP : va_P G.1 vwCl [(h0, .inr (6, [.int 0, .ref kd, .ref mo, .ref st, .int 0, .ref ro, .ref tp, .int 0, .ref cd, .ref sr, .int 1, .int 0, .int 0, .ref ir, .ref ih, .ref ss, .ref sq, .ref ce, .ref lw, .int 40, .int 40, .int 0, .int 0, .ref wo, .ref he, .int 0, .int 0, .int 5, .ref sk, .ref na, .ref kp, .int 0, .int 0, .int 0, .int 0, .ref gb, .ref go, .ref fa, .ref ga, .int 0, .int 0, .ref vo])), (ss, .inl (G.2.1, 4, .inl (upd (upd (upd (upd (fun _ => 0) 0 (-1)) 1 (-1)) 2 (-1)) 3 (-1)))), (sq, .inl (G.2.1, 4, .inl (fun _ => 0))), (ce, .inl (G.2.1, 160, .inl (fun _ => 0)))] H := hP
    have hD : va_D A [(h0, .inr (6, [.int 0, .ref kd, .ref mo, .ref st, .int 0, .ref ro, .ref tp, .int 0, .ref cd, .ref sr, .int 1, .int 0, .int 0, .ref ir, .ref ih, .ref ss, .ref sq, .ref ce, .ref lw, .int 40, .int 40, .int 0, .int 0, .ref wo, .ref he, .int 0, .int 0, .int 5, .ref sk, .ref na, .ref kp, .int 0, .int 0, .int 0, .int 0, .ref gb, .ref go, .ref fa, .ref ga, .int 0, .int 0, .ref vo])), (ss, .inl (G.2.1, 4, .inl (upd (upd (upd (upd (fun _ => 0) 0 (-1)) 1 (-1)) 2 (-1)) 3 (-1)))), (sq, .inl (G.2.1, 4, .inl (fun _ => 0))), (ce, .inl (G.2.1, 160, .inl (fun _ => 0)))] := hD
    refine lv_if_eq (tgt := 29) hx hb dX6_sheet_15 (by decide) (fun c_8 => ?_) (fun c_8 => ?_)
    · skip
      have n_10 : ¬ ((-1) ≤ v1 ∧ v1 ≤ 2) := of_decide_eq_false (bz_eq w_7 c_8)
      refine lv_bipush (v := -2) hx hb dX6_sheet_29 (by decide) ?_
      have hpost : (fun (r : Int32) (u : Unit) => match u with | _ => r = (if (0 ≤ v0 ∧ v0 ≤ 3) ∧ (-1 ≤ v1 ∧ v1 ≤ 2) then (if v1 = -1 then 1 else if 40 < v2 then -2 else if v2 < 0 then -14 else 1) else -2)) (-2) () := pp_X6_sheet_0_2 v0 v1 v2 p_4 n_10
      exact W.iret (v := (-2)) hx hb hr (fun t ht hW => ⟨⟨(-2), (), rfl, hpost, trivial⟩, hS.F ht⟩) hS.2.2 dX6_sheet_31
    · skip
      have p_9 : (-1) ≤ v1 ∧ v1 ≤ 2 := of_decide_eq_true (bz_ne w_7 c_8)
      refine lv_iload_n hx hb dX6_sheet_18 rfl (lv_at hl 2 rfl) ?_
      refine lv_iconst (v := -1) hx hb dX6_sheet_19 (by decide) ?_
      refine lv_icmp_eq (tgt := 32) hx hb dX6_sheet_20 (by decide) (fun c_11 => ?_) (fun c_11 => ?_)
      · skip
        refine lv_iload_n hx hb dX6_sheet_32 rfl (lv_at hl 2 rfl) ?_
        refine lv_iconst (v := -1) hx hb dX6_sheet_33 (by decide) ?_
        refine lv_icmp_eq (tgt := 44) hx hb dX6_sheet_34 (by decide) (fun c_12 => ?_) (fun c_12 => ?_)
        · skip
          refine lv_aload_n hx hb dX6_sheet_44 rfl (lv_at hl 0 rfl) ?_
          refine va_get (D := G.1) (ci := 6) (v := .ref ss) (C := RX6) (T := TX6) (N := 42) hx hb hts hiX6 hown hK hP 0 rfl rfl 15 (by decide) kf37 (fun _ h9 => h9) rfl dX6_sheet_45 ?_
          refine lv_iload_n hx hb dX6_sheet_48 rfl (lv_at hl 1 rfl) ?_
          refine lv_iload_n hx hb dX6_sheet_49 rfl (lv_at hl 2 rfl) ?_
          refine va_iast (D := G.1) hx hb hK hP hD hS 1 0 rfl rfl (i := v0) (x := v1) (g_in3 (by assumption)) dX6_sheet_50 (fun H locs hP hD hS => ?_)
          have hP : va_P G.1 vwCl [(h0, .inr (6, [.int 0, .ref kd, .ref mo, .ref st, .int 0, .ref ro, .ref tp, .int 0, .ref cd, .ref sr, .int 1, .int 0, .int 0, .ref ir, .ref ih, .ref ss, .ref sq, .ref ce, .ref lw, .int 40, .int 40, .int 0, .int 0, .ref wo, .ref he, .int 0, .int 0, .int 5, .ref sk, .ref na, .ref kp, .int 0, .int 0, .int 0, .int 0, .ref gb, .ref go, .ref fa, .ref ga, .int 0, .int 0, .ref vo])), (ss, .inl (G.2.1, 4, .inl (upd (upd (upd (upd (upd (fun _ => 0) 0 (-1)) 1 (-1)) 2 (-1)) 3 (-1)) v0.toNatClampNeg v1))), (sq, .inl (G.2.1, 4, .inl (fun _ => 0))), (ce, .inl (G.2.1, 160, .inl (fun _ => 0)))] H := hP
          have hD : va_D A [(h0, .inr (6, [.int 0, .ref kd, .ref mo, .ref st, .int 0, .ref ro, .ref tp, .int 0, .ref cd, .ref sr, .int 1, .int 0, .int 0, .ref ir, .ref ih, .ref ss, .ref sq, .ref ce, .ref lw, .int 40, .int 40, .int 0, .int 0, .ref wo, .ref he, .int 0, .int 0, .int 5, .ref sk, .ref na, .ref kp, .int 0, .int 0, .int 0, .int 0, .ref gb, .ref go, .ref fa, .ref ga, .int 0, .int 0, .ref vo])), (ss, .inl (G.2.1, 4, .inl (upd (upd (upd (upd (upd (fun _ => 0) 0 (-1)) 1 (-1)) 2 (-1)) 3 (-1)) v0.toNatClampNeg v1))), (sq, .inl (G.2.1, 4, .inl (fun _ => 0))), (ce, .inl (G.2.1, 160, .inl (fun _ => 0)))] := hD
          refine lv_aload_n hx hb dX6_sheet_51 rfl (lv_at hl 0 rfl) ?_
          refine va_get (D := G.1) (ci := 6) (v := .ref sq) (C := RX6) (T := TX6) (N := 42) hx hb hts hiX6 hown hK hP 0 rfl rfl 16 (by decide) kf40 (fun _ h9 => h9) rfl dX6_sheet_52 ?_
          refine lv_iload_n hx hb dX6_sheet_55 rfl (lv_at hl 1 rfl) ?_
          refine lv_iload_n hx hb dX6_sheet_56 rfl (lv_at hl 2 rfl) ?_
          refine lv_iconst (v := -1) hx hb dX6_sheet_57 (by decide) ?_
          refine lv_icmp_ne (tgt := 65) hx hb dX6_sheet_58 (by decide) (fun c_13 => ?_) (fun c_13 => ?_)
          · skip
            refine lv_iload_n hx hb dX6_sheet_65 rfl (lv_at hl 3 rfl) ?_
            refine va_iast (D := G.1) hx hb hK hP hD hS 2 0 rfl rfl (i := v0) (x := v2) (g_in3 (by assumption)) dX6_sheet_66 (fun H locs hP hD hS => ?_)
            have hP : va_P G.1 vwCl [(h0, .inr (6, [.int 0, .ref kd, .ref mo, .ref st, .int 0, .ref ro, .ref tp, .int 0, .ref cd, .ref sr, .int 1, .int 0, .int 0, .ref ir, .ref ih, .ref ss, .ref sq, .ref ce, .ref lw, .int 40, .int 40, .int 0, .int 0, .ref wo, .ref he, .int 0, .int 0, .int 5, .ref sk, .ref na, .ref kp, .int 0, .int 0, .int 0, .int 0, .ref gb, .ref go, .ref fa, .ref ga, .int 0, .int 0, .ref vo])), (ss, .inl (G.2.1, 4, .inl (upd (upd (upd (upd (upd (fun _ => 0) 0 (-1)) 1 (-1)) 2 (-1)) 3 (-1)) v0.toNatClampNeg v1))), (sq, .inl (G.2.1, 4, .inl (upd (fun _ => 0) v0.toNatClampNeg v2))), (ce, .inl (G.2.1, 160, .inl (fun _ => 0)))] H := hP
            have hD : va_D A [(h0, .inr (6, [.int 0, .ref kd, .ref mo, .ref st, .int 0, .ref ro, .ref tp, .int 0, .ref cd, .ref sr, .int 1, .int 0, .int 0, .ref ir, .ref ih, .ref ss, .ref sq, .ref ce, .ref lw, .int 40, .int 40, .int 0, .int 0, .ref wo, .ref he, .int 0, .int 0, .int 5, .ref sk, .ref na, .ref kp, .int 0, .int 0, .int 0, .int 0, .ref gb, .ref go, .ref fa, .ref ga, .int 0, .int 0, .ref vo])), (ss, .inl (G.2.1, 4, .inl (upd (upd (upd (upd (upd (fun _ => 0) 0 (-1)) 1 (-1)) 2 (-1)) 3 (-1)) v0.toNatClampNeg v1))), (sq, .inl (G.2.1, 4, .inl (upd (fun _ => 0) v0.toNatClampNeg v2))), (ce, .inl (G.2.1, 160, .inl (fun _ => 0)))] := hD
            refine lv_iconst (v := 0) hx hb dX6_sheet_67 (by decide) ?_
            refine lv_istore (lv' := [(4, .int 0), (0, .ref h0), (1, .int v0), (2, .int v1), (3, .int v2)]) hx hb dX6_sheet_68 hl (by decide) rfl (fun ls hl => ?_)
            have loop_70 : ∀ (n9 : Nat) (i : Nat) (y : Nat → Int32), (i ≤ 40) → (40 - i) < n9 → ∀ (H : Heap) (locs : List Loc), va_P G.1 vwCl [(h0, .inr (6, [.int 0, .ref kd, .ref mo, .ref st, .int 0, .ref ro, .ref tp, .int 0, .ref cd, .ref sr, .int 1, .int 0, .int 0, .ref ir, .ref ih, .ref ss, .ref sq, .ref ce, .ref lw, .int 40, .int 40, .int 0, .int 0, .ref wo, .ref he, .int 0, .int 0, .int 5, .ref sk, .ref na, .ref kp, .int 0, .int 0, .int 0, .int 0, .ref gb, .ref go, .ref fa, .ref ga, .int 0, .int 0, .ref vo])), (ss, .inl (G.2.1, 4, .inl (upd (upd (upd (upd (upd (fun _ => 0) 0 (-1)) 1 (-1)) 2 (-1)) 3 (-1)) v0.toNatClampNeg v1))), (sq, .inl (G.2.1, 4, .inl (upd (fun _ => 0) v0.toNatClampNeg v2))), (ce, .inl (G.2.1, 160, .inl y))] H → va_D A [(h0, .inr (6, [.int 0, .ref kd, .ref mo, .ref st, .int 0, .ref ro, .ref tp, .int 0, .ref cd, .ref sr, .int 1, .int 0, .int 0, .ref ir, .ref ih, .ref ss, .ref sq, .ref ce, .ref lw, .int 40, .int 40, .int 0, .int 0, .ref wo, .ref he, .int 0, .int 0, .int 5, .ref sk, .ref na, .ref kp, .int 0, .int 0, .int 0, .int 0, .ref gb, .ref go, .ref fa, .ref ga, .int 0, .int 0, .ref vo])), (ss, .inl (G.2.1, 4, .inl (upd (upd (upd (upd (upd (fun _ => 0) 0 (-1)) 1 (-1)) 2 (-1)) 3 (-1)) v0.toNatClampNeg v1))), (sq, .inl (G.2.1, 4, .inl (upd (fun _ => 0) v0.toNatClampNeg v2))), (ce, .inl (G.2.1, 160, .inl y))] → va_S A s.heap H locs → ∀ ls : Array Slot, lv_has ls 5 [(4, .int (nI i)), (0, .ref h0), (1, .int v0), (2, .int v1), (3, .int v2)] → W p l e (headSpec wsX6_sheet ({ frames := 1, cells := 0, slots := 0, locals := 22 })).room s m ([.ref h0, .int v0, .int v1, .int v2] : List Value).toArray below meth c H locs 0 0 (MQ below (q_X6_sheet_0 G h0 kd mo st ro tp cd sr ir ih ss sq ce lw wo he sk na kp gb go fa ga vo v0 v1 v2 A) ([.ref h0, .int v0, .int v1, .int v2] : List Value).toArray s 0 0 A) (F0 m 70 ls []) := by
              intro n9
              induction n9 with
              | zero => intro i y hi hm9; exact absurd hm9 (Nat.not_lt_zero _)
              | succ n9 ih9 =>
                intro i y hi hm9 H locs hP hD hS ls hl
                refine lv_iload hx hb dX6_sheet_70 (lv_at hl 0 rfl) ?_
                refine lv_bipush (v := 40) hx hb dX6_sheet_72 (by decide) ?_
                refine lv_icmp_ge (tgt := 96) hx hb dX6_sheet_74 (by decide) (fun c_14 => ?_) (fun c_14 => ?_)
                · skip
                  refine lv_iconst (v := 1) hx hb dX6_sheet_96 (by decide) ?_
                  have hpost : (fun (r : Int32) (u : Unit) => match u with | _ => r = (if (0 ≤ v0 ∧ v0 ≤ 3) ∧ (-1 ≤ v1 ∧ v1 ≤ 2) then (if v1 = -1 then 1 else if 40 < v2 then -2 else if v2 < 0 then -14 else 1) else -2)) 1 () := pp_X6_sheet_0_3 v0 v1 v2 p_4 p_9 c_11 c_12 c_13
                  exact W.iret (v := 1) hx hb hr (fun t ht hW => ⟨⟨1, (), rfl, hpost, trivial⟩, hS.F ht⟩) hS.2.2 dX6_sheet_97
                · skip
                  have hi2 : i < 40 := by
                    rcases Nat.lt_or_ge i 40 with z | z
                    · exact z
                    · exact absurd (nI_le (a := 40) z (by omega)) c_14
                  refine lv_aload_n hx hb dX6_sheet_77 rfl (lv_at hl 1 rfl) ?_
                  refine va_get (D := G.1) (ci := 6) (v := .ref ce) (C := RX6) (T := TX6) (N := 42) hx hb hts hiX6 hown hK hP 0 rfl rfl 17 (by decide) kf43 (fun _ h9 => h9) rfl dX6_sheet_78 ?_
                  refine lv_bipush (v := 40) hx hb dX6_sheet_81 (by decide) ?_
                  refine lv_iload_n hx hb dX6_sheet_83 rfl (lv_at hl 2 rfl) ?_
                  refine lv_imul hx hb dX6_sheet_84 ?_
                  refine lv_iload hx hb dX6_sheet_85 (lv_at hl 0 rfl) ?_
                  refine lv_iadd hx hb dX6_sheet_87 ?_
                  refine lv_iconst (v := 0) hx hb dX6_sheet_88 (by decide) ?_
                  refine va_iast (D := G.1) hx hb hK hP hD hS 3 0 rfl rfl (i := ((40 * v0) + (nI i))) (x := 0) (g_ix40 (by assumption) hi2) dX6_sheet_89 (fun H locs hP hD hS => ?_)
                  have hP : va_P G.1 vwCl [(h0, .inr (6, [.int 0, .ref kd, .ref mo, .ref st, .int 0, .ref ro, .ref tp, .int 0, .ref cd, .ref sr, .int 1, .int 0, .int 0, .ref ir, .ref ih, .ref ss, .ref sq, .ref ce, .ref lw, .int 40, .int 40, .int 0, .int 0, .ref wo, .ref he, .int 0, .int 0, .int 5, .ref sk, .ref na, .ref kp, .int 0, .int 0, .int 0, .int 0, .ref gb, .ref go, .ref fa, .ref ga, .int 0, .int 0, .ref vo])), (ss, .inl (G.2.1, 4, .inl (upd (upd (upd (upd (upd (fun _ => 0) 0 (-1)) 1 (-1)) 2 (-1)) 3 (-1)) v0.toNatClampNeg v1))), (sq, .inl (G.2.1, 4, .inl (upd (fun _ => 0) v0.toNatClampNeg v2))), (ce, .inl (G.2.1, 160, .inl (upd y (((40 * v0) + (nI i)).toNatClampNeg) 0)))] H := hP
                  have hD : va_D A [(h0, .inr (6, [.int 0, .ref kd, .ref mo, .ref st, .int 0, .ref ro, .ref tp, .int 0, .ref cd, .ref sr, .int 1, .int 0, .int 0, .ref ir, .ref ih, .ref ss, .ref sq, .ref ce, .ref lw, .int 40, .int 40, .int 0, .int 0, .ref wo, .ref he, .int 0, .int 0, .int 5, .ref sk, .ref na, .ref kp, .int 0, .int 0, .int 0, .int 0, .ref gb, .ref go, .ref fa, .ref ga, .int 0, .int 0, .ref vo])), (ss, .inl (G.2.1, 4, .inl (upd (upd (upd (upd (upd (fun _ => 0) 0 (-1)) 1 (-1)) 2 (-1)) 3 (-1)) v0.toNatClampNeg v1))), (sq, .inl (G.2.1, 4, .inl (upd (fun _ => 0) v0.toNatClampNeg v2))), (ce, .inl (G.2.1, 160, .inl (upd y (((40 * v0) + (nI i)).toNatClampNeg) 0)))] := hD
                  refine lv_iinc (v := nI (i + 1)) (lv' := [(4, .int (nI (i + 1))), (0, .ref h0), (1, .int v0), (2, .int v1), (3, .int v2)]) hx hb dX6_sheet_90 hl (k := 0) rfl (nI_1 i) (by decide) rfl (fun ls hl => ?_)
                  refine lv_goto (tgt := 70) hx hb dX6_sheet_93 (by decide) ?_
                  exact ih9 (i + 1) (upd y (((40 * v0) + (nI i)).toNatClampNeg) 0) (hi2) (by omega) _ _ (hP.sub [0, 1, 2, 3] rfl) (hD.sub [0, 1, 2, 3] (by decide) rfl) hS ls (lv_sub hl [0, 1, 2, 3, 4] rfl)
            exact loop_70 (41) 0 (fun _ => 0) (Nat.zero_le _) (by omega) _ _ (hP.sub [0, 1, 2, 3] rfl) (hD.sub [0, 1, 2, 3] (by decide) rfl) hS ls (lv_sub hl [0, 1, 2, 3, 4] rfl)
          · skip
            refine lv_iconst (v := 0) hx hb dX6_sheet_61 (by decide) ?_
            refine lv_goto (tgt := 66) hx hb dX6_sheet_62 (by decide) ?_
            refine va_iast (D := G.1) hx hb hK hP hD hS 2 0 rfl rfl (i := v0) (x := 0) (g_in3 (by assumption)) dX6_sheet_66 (fun H locs hP hD hS => ?_)
            have hP : va_P G.1 vwCl [(h0, .inr (6, [.int 0, .ref kd, .ref mo, .ref st, .int 0, .ref ro, .ref tp, .int 0, .ref cd, .ref sr, .int 1, .int 0, .int 0, .ref ir, .ref ih, .ref ss, .ref sq, .ref ce, .ref lw, .int 40, .int 40, .int 0, .int 0, .ref wo, .ref he, .int 0, .int 0, .int 5, .ref sk, .ref na, .ref kp, .int 0, .int 0, .int 0, .int 0, .ref gb, .ref go, .ref fa, .ref ga, .int 0, .int 0, .ref vo])), (ss, .inl (G.2.1, 4, .inl (upd (upd (upd (upd (upd (fun _ => 0) 0 (-1)) 1 (-1)) 2 (-1)) 3 (-1)) v0.toNatClampNeg v1))), (sq, .inl (G.2.1, 4, .inl (upd (fun _ => 0) v0.toNatClampNeg 0))), (ce, .inl (G.2.1, 160, .inl (fun _ => 0)))] H := hP
            have hD : va_D A [(h0, .inr (6, [.int 0, .ref kd, .ref mo, .ref st, .int 0, .ref ro, .ref tp, .int 0, .ref cd, .ref sr, .int 1, .int 0, .int 0, .ref ir, .ref ih, .ref ss, .ref sq, .ref ce, .ref lw, .int 40, .int 40, .int 0, .int 0, .ref wo, .ref he, .int 0, .int 0, .int 5, .ref sk, .ref na, .ref kp, .int 0, .int 0, .int 0, .int 0, .ref gb, .ref go, .ref fa, .ref ga, .int 0, .int 0, .ref vo])), (ss, .inl (G.2.1, 4, .inl (upd (upd (upd (upd (upd (fun _ => 0) 0 (-1)) 1 (-1)) 2 (-1)) 3 (-1)) v0.toNatClampNeg v1))), (sq, .inl (G.2.1, 4, .inl (upd (fun _ => 0) v0.toNatClampNeg 0))), (ce, .inl (G.2.1, 160, .inl (fun _ => 0)))] := hD
            refine lv_iconst (v := 0) hx hb dX6_sheet_67 (by decide) ?_
            refine lv_istore (lv' := [(4, .int 0), (0, .ref h0), (1, .int v0), (2, .int v1), (3, .int v2)]) hx hb dX6_sheet_68 hl (by decide) rfl (fun ls hl => ?_)
            have loop_70 : ∀ (n9 : Nat) (i : Nat) (y : Nat → Int32), (i ≤ 40) → (40 - i) < n9 → ∀ (H : Heap) (locs : List Loc), va_P G.1 vwCl [(h0, .inr (6, [.int 0, .ref kd, .ref mo, .ref st, .int 0, .ref ro, .ref tp, .int 0, .ref cd, .ref sr, .int 1, .int 0, .int 0, .ref ir, .ref ih, .ref ss, .ref sq, .ref ce, .ref lw, .int 40, .int 40, .int 0, .int 0, .ref wo, .ref he, .int 0, .int 0, .int 5, .ref sk, .ref na, .ref kp, .int 0, .int 0, .int 0, .int 0, .ref gb, .ref go, .ref fa, .ref ga, .int 0, .int 0, .ref vo])), (ss, .inl (G.2.1, 4, .inl (upd (upd (upd (upd (upd (fun _ => 0) 0 (-1)) 1 (-1)) 2 (-1)) 3 (-1)) v0.toNatClampNeg v1))), (sq, .inl (G.2.1, 4, .inl (upd (fun _ => 0) v0.toNatClampNeg 0))), (ce, .inl (G.2.1, 160, .inl y))] H → va_D A [(h0, .inr (6, [.int 0, .ref kd, .ref mo, .ref st, .int 0, .ref ro, .ref tp, .int 0, .ref cd, .ref sr, .int 1, .int 0, .int 0, .ref ir, .ref ih, .ref ss, .ref sq, .ref ce, .ref lw, .int 40, .int 40, .int 0, .int 0, .ref wo, .ref he, .int 0, .int 0, .int 5, .ref sk, .ref na, .ref kp, .int 0, .int 0, .int 0, .int 0, .ref gb, .ref go, .ref fa, .ref ga, .int 0, .int 0, .ref vo])), (ss, .inl (G.2.1, 4, .inl (upd (upd (upd (upd (upd (fun _ => 0) 0 (-1)) 1 (-1)) 2 (-1)) 3 (-1)) v0.toNatClampNeg v1))), (sq, .inl (G.2.1, 4, .inl (upd (fun _ => 0) v0.toNatClampNeg 0))), (ce, .inl (G.2.1, 160, .inl y))] → va_S A s.heap H locs → ∀ ls : Array Slot, lv_has ls 5 [(4, .int (nI i)), (0, .ref h0), (1, .int v0), (2, .int v1), (3, .int v2)] → W p l e (headSpec wsX6_sheet ({ frames := 1, cells := 0, slots := 0, locals := 22 })).room s m ([.ref h0, .int v0, .int v1, .int v2] : List Value).toArray below meth c H locs 0 0 (MQ below (q_X6_sheet_0 G h0 kd mo st ro tp cd sr ir ih ss sq ce lw wo he sk na kp gb go fa ga vo v0 v1 v2 A) ([.ref h0, .int v0, .int v1, .int v2] : List Value).toArray s 0 0 A) (F0 m 70 ls []) := by
              intro n9
              induction n9 with
              | zero => intro i y hi hm9; exact absurd hm9 (Nat.not_lt_zero _)
              | succ n9 ih9 =>
                intro i y hi hm9 H locs hP hD hS ls hl
                refine lv_iload hx hb dX6_sheet_70 (lv_at hl 0 rfl) ?_
                refine lv_bipush (v := 40) hx hb dX6_sheet_72 (by decide) ?_
                refine lv_icmp_ge (tgt := 96) hx hb dX6_sheet_74 (by decide) (fun c_15 => ?_) (fun c_15 => ?_)
                · skip
                  refine lv_iconst (v := 1) hx hb dX6_sheet_96 (by decide) ?_
                  have hpost : (fun (r : Int32) (u : Unit) => match u with | _ => r = (if (0 ≤ v0 ∧ v0 ≤ 3) ∧ (-1 ≤ v1 ∧ v1 ≤ 2) then (if v1 = -1 then 1 else if 40 < v2 then -2 else if v2 < 0 then -14 else 1) else -2)) 1 () := pp_X6_sheet_0_4 v0 v1 v2 p_4 p_9 c_11 c_12 c_13
                  exact W.iret (v := 1) hx hb hr (fun t ht hW => ⟨⟨1, (), rfl, hpost, trivial⟩, hS.F ht⟩) hS.2.2 dX6_sheet_97
                · skip
                  have hi2 : i < 40 := by
                    rcases Nat.lt_or_ge i 40 with z | z
                    · exact z
                    · exact absurd (nI_le (a := 40) z (by omega)) c_15
                  refine lv_aload_n hx hb dX6_sheet_77 rfl (lv_at hl 1 rfl) ?_
                  refine va_get (D := G.1) (ci := 6) (v := .ref ce) (C := RX6) (T := TX6) (N := 42) hx hb hts hiX6 hown hK hP 0 rfl rfl 17 (by decide) kf43 (fun _ h9 => h9) rfl dX6_sheet_78 ?_
                  refine lv_bipush (v := 40) hx hb dX6_sheet_81 (by decide) ?_
                  refine lv_iload_n hx hb dX6_sheet_83 rfl (lv_at hl 2 rfl) ?_
                  refine lv_imul hx hb dX6_sheet_84 ?_
                  refine lv_iload hx hb dX6_sheet_85 (lv_at hl 0 rfl) ?_
                  refine lv_iadd hx hb dX6_sheet_87 ?_
                  refine lv_iconst (v := 0) hx hb dX6_sheet_88 (by decide) ?_
                  refine va_iast (D := G.1) hx hb hK hP hD hS 3 0 rfl rfl (i := ((40 * v0) + (nI i))) (x := 0) (g_ix40 (by assumption) hi2) dX6_sheet_89 (fun H locs hP hD hS => ?_)
                  have hP : va_P G.1 vwCl [(h0, .inr (6, [.int 0, .ref kd, .ref mo, .ref st, .int 0, .ref ro, .ref tp, .int 0, .ref cd, .ref sr, .int 1, .int 0, .int 0, .ref ir, .ref ih, .ref ss, .ref sq, .ref ce, .ref lw, .int 40, .int 40, .int 0, .int 0, .ref wo, .ref he, .int 0, .int 0, .int 5, .ref sk, .ref na, .ref kp, .int 0, .int 0, .int 0, .int 0, .ref gb, .ref go, .ref fa, .ref ga, .int 0, .int 0, .ref vo])), (ss, .inl (G.2.1, 4, .inl (upd (upd (upd (upd (upd (fun _ => 0) 0 (-1)) 1 (-1)) 2 (-1)) 3 (-1)) v0.toNatClampNeg v1))), (sq, .inl (G.2.1, 4, .inl (upd (fun _ => 0) v0.toNatClampNeg 0))), (ce, .inl (G.2.1, 160, .inl (upd y (((40 * v0) + (nI i)).toNatClampNeg) 0)))] H := hP
                  have hD : va_D A [(h0, .inr (6, [.int 0, .ref kd, .ref mo, .ref st, .int 0, .ref ro, .ref tp, .int 0, .ref cd, .ref sr, .int 1, .int 0, .int 0, .ref ir, .ref ih, .ref ss, .ref sq, .ref ce, .ref lw, .int 40, .int 40, .int 0, .int 0, .ref wo, .ref he, .int 0, .int 0, .int 5, .ref sk, .ref na, .ref kp, .int 0, .int 0, .int 0, .int 0, .ref gb, .ref go, .ref fa, .ref ga, .int 0, .int 0, .ref vo])), (ss, .inl (G.2.1, 4, .inl (upd (upd (upd (upd (upd (fun _ => 0) 0 (-1)) 1 (-1)) 2 (-1)) 3 (-1)) v0.toNatClampNeg v1))), (sq, .inl (G.2.1, 4, .inl (upd (fun _ => 0) v0.toNatClampNeg 0))), (ce, .inl (G.2.1, 160, .inl (upd y (((40 * v0) + (nI i)).toNatClampNeg) 0)))] := hD
                  refine lv_iinc (v := nI (i + 1)) (lv' := [(4, .int (nI (i + 1))), (0, .ref h0), (1, .int v0), (2, .int v1), (3, .int v2)]) hx hb dX6_sheet_90 hl (k := 0) rfl (nI_1 i) (by decide) rfl (fun ls hl => ?_)
                  refine lv_goto (tgt := 70) hx hb dX6_sheet_93 (by decide) ?_
                  exact ih9 (i + 1) (upd y (((40 * v0) + (nI i)).toNatClampNeg) 0) (hi2) (by omega) _ _ (hP.sub [0, 1, 2, 3] rfl) (hD.sub [0, 1, 2, 3] (by decide) rfl) hS ls (lv_sub hl [0, 1, 2, 3, 4] rfl)
            exact loop_70 (41) 0 (fun _ => 0) (Nat.zero_le _) (by omega) _ _ (hP.sub [0, 1, 2, 3] rfl) (hD.sub [0, 1, 2, 3] (by decide) rfl) hS ls (lv_sub hl [0, 1, 2, 3, 4] rfl)
        · skip
          refine lv_iload_n hx hb dX6_sheet_37 rfl (lv_at hl 3 rfl) ?_
          refine lv_if_ge (tgt := 44) hx hb dX6_sheet_38 (by decide) (fun c_16 => ?_) (fun c_16 => ?_)
          · skip
            refine lv_aload_n hx hb dX6_sheet_44 rfl (lv_at hl 0 rfl) ?_
            refine va_get (D := G.1) (ci := 6) (v := .ref ss) (C := RX6) (T := TX6) (N := 42) hx hb hts hiX6 hown hK hP 0 rfl rfl 15 (by decide) kf37 (fun _ h9 => h9) rfl dX6_sheet_45 ?_
            refine lv_iload_n hx hb dX6_sheet_48 rfl (lv_at hl 1 rfl) ?_
            refine lv_iload_n hx hb dX6_sheet_49 rfl (lv_at hl 2 rfl) ?_
            refine va_iast (D := G.1) hx hb hK hP hD hS 1 0 rfl rfl (i := v0) (x := v1) (g_in3 (by assumption)) dX6_sheet_50 (fun H locs hP hD hS => ?_)
            have hP : va_P G.1 vwCl [(h0, .inr (6, [.int 0, .ref kd, .ref mo, .ref st, .int 0, .ref ro, .ref tp, .int 0, .ref cd, .ref sr, .int 1, .int 0, .int 0, .ref ir, .ref ih, .ref ss, .ref sq, .ref ce, .ref lw, .int 40, .int 40, .int 0, .int 0, .ref wo, .ref he, .int 0, .int 0, .int 5, .ref sk, .ref na, .ref kp, .int 0, .int 0, .int 0, .int 0, .ref gb, .ref go, .ref fa, .ref ga, .int 0, .int 0, .ref vo])), (ss, .inl (G.2.1, 4, .inl (upd (upd (upd (upd (upd (fun _ => 0) 0 (-1)) 1 (-1)) 2 (-1)) 3 (-1)) v0.toNatClampNeg v1))), (sq, .inl (G.2.1, 4, .inl (fun _ => 0))), (ce, .inl (G.2.1, 160, .inl (fun _ => 0)))] H := hP
            have hD : va_D A [(h0, .inr (6, [.int 0, .ref kd, .ref mo, .ref st, .int 0, .ref ro, .ref tp, .int 0, .ref cd, .ref sr, .int 1, .int 0, .int 0, .ref ir, .ref ih, .ref ss, .ref sq, .ref ce, .ref lw, .int 40, .int 40, .int 0, .int 0, .ref wo, .ref he, .int 0, .int 0, .int 5, .ref sk, .ref na, .ref kp, .int 0, .int 0, .int 0, .int 0, .ref gb, .ref go, .ref fa, .ref ga, .int 0, .int 0, .ref vo])), (ss, .inl (G.2.1, 4, .inl (upd (upd (upd (upd (upd (fun _ => 0) 0 (-1)) 1 (-1)) 2 (-1)) 3 (-1)) v0.toNatClampNeg v1))), (sq, .inl (G.2.1, 4, .inl (fun _ => 0))), (ce, .inl (G.2.1, 160, .inl (fun _ => 0)))] := hD
            refine lv_aload_n hx hb dX6_sheet_51 rfl (lv_at hl 0 rfl) ?_
            refine va_get (D := G.1) (ci := 6) (v := .ref sq) (C := RX6) (T := TX6) (N := 42) hx hb hts hiX6 hown hK hP 0 rfl rfl 16 (by decide) kf40 (fun _ h9 => h9) rfl dX6_sheet_52 ?_
            refine lv_iload_n hx hb dX6_sheet_55 rfl (lv_at hl 1 rfl) ?_
            refine lv_iload_n hx hb dX6_sheet_56 rfl (lv_at hl 2 rfl) ?_
            refine lv_iconst (v := -1) hx hb dX6_sheet_57 (by decide) ?_
            refine lv_icmp_ne (tgt := 65) hx hb dX6_sheet_58 (by decide) (fun c_17 => ?_) (fun c_17 => ?_)
            · skip
              refine lv_iload_n hx hb dX6_sheet_65 rfl (lv_at hl 3 rfl) ?_
              refine va_iast (D := G.1) hx hb hK hP hD hS 2 0 rfl rfl (i := v0) (x := v2) (g_in3 (by assumption)) dX6_sheet_66 (fun H locs hP hD hS => ?_)
              have hP : va_P G.1 vwCl [(h0, .inr (6, [.int 0, .ref kd, .ref mo, .ref st, .int 0, .ref ro, .ref tp, .int 0, .ref cd, .ref sr, .int 1, .int 0, .int 0, .ref ir, .ref ih, .ref ss, .ref sq, .ref ce, .ref lw, .int 40, .int 40, .int 0, .int 0, .ref wo, .ref he, .int 0, .int 0, .int 5, .ref sk, .ref na, .ref kp, .int 0, .int 0, .int 0, .int 0, .ref gb, .ref go, .ref fa, .ref ga, .int 0, .int 0, .ref vo])), (ss, .inl (G.2.1, 4, .inl (upd (upd (upd (upd (upd (fun _ => 0) 0 (-1)) 1 (-1)) 2 (-1)) 3 (-1)) v0.toNatClampNeg v1))), (sq, .inl (G.2.1, 4, .inl (upd (fun _ => 0) v0.toNatClampNeg v2))), (ce, .inl (G.2.1, 160, .inl (fun _ => 0)))] H := hP
              have hD : va_D A [(h0, .inr (6, [.int 0, .ref kd, .ref mo, .ref st, .int 0, .ref ro, .ref tp, .int 0, .ref cd, .ref sr, .int 1, .int 0, .int 0, .ref ir, .ref ih, .ref ss, .ref sq, .ref ce, .ref lw, .int 40, .int 40, .int 0, .int 0, .ref wo, .ref he, .int 0, .int 0, .int 5, .ref sk, .ref na, .ref kp, .int 0, .int 0, .int 0, .int 0, .ref gb, .ref go, .ref fa, .ref ga, .int 0, .int 0, .ref vo])), (ss, .inl (G.2.1, 4, .inl (upd (upd (upd (upd (upd (fun _ => 0) 0 (-1)) 1 (-1)) 2 (-1)) 3 (-1)) v0.toNatClampNeg v1))), (sq, .inl (G.2.1, 4, .inl (upd (fun _ => 0) v0.toNatClampNeg v2))), (ce, .inl (G.2.1, 160, .inl (fun _ => 0)))] := hD
              refine lv_iconst (v := 0) hx hb dX6_sheet_67 (by decide) ?_
              refine lv_istore (lv' := [(4, .int 0), (0, .ref h0), (1, .int v0), (2, .int v1), (3, .int v2)]) hx hb dX6_sheet_68 hl (by decide) rfl (fun ls hl => ?_)
              have loop_70 : ∀ (n9 : Nat) (i : Nat) (y : Nat → Int32), (i ≤ 40) → (40 - i) < n9 → ∀ (H : Heap) (locs : List Loc), va_P G.1 vwCl [(h0, .inr (6, [.int 0, .ref kd, .ref mo, .ref st, .int 0, .ref ro, .ref tp, .int 0, .ref cd, .ref sr, .int 1, .int 0, .int 0, .ref ir, .ref ih, .ref ss, .ref sq, .ref ce, .ref lw, .int 40, .int 40, .int 0, .int 0, .ref wo, .ref he, .int 0, .int 0, .int 5, .ref sk, .ref na, .ref kp, .int 0, .int 0, .int 0, .int 0, .ref gb, .ref go, .ref fa, .ref ga, .int 0, .int 0, .ref vo])), (ss, .inl (G.2.1, 4, .inl (upd (upd (upd (upd (upd (fun _ => 0) 0 (-1)) 1 (-1)) 2 (-1)) 3 (-1)) v0.toNatClampNeg v1))), (sq, .inl (G.2.1, 4, .inl (upd (fun _ => 0) v0.toNatClampNeg v2))), (ce, .inl (G.2.1, 160, .inl y))] H → va_D A [(h0, .inr (6, [.int 0, .ref kd, .ref mo, .ref st, .int 0, .ref ro, .ref tp, .int 0, .ref cd, .ref sr, .int 1, .int 0, .int 0, .ref ir, .ref ih, .ref ss, .ref sq, .ref ce, .ref lw, .int 40, .int 40, .int 0, .int 0, .ref wo, .ref he, .int 0, .int 0, .int 5, .ref sk, .ref na, .ref kp, .int 0, .int 0, .int 0, .int 0, .ref gb, .ref go, .ref fa, .ref ga, .int 0, .int 0, .ref vo])), (ss, .inl (G.2.1, 4, .inl (upd (upd (upd (upd (upd (fun _ => 0) 0 (-1)) 1 (-1)) 2 (-1)) 3 (-1)) v0.toNatClampNeg v1))), (sq, .inl (G.2.1, 4, .inl (upd (fun _ => 0) v0.toNatClampNeg v2))), (ce, .inl (G.2.1, 160, .inl y))] → va_S A s.heap H locs → ∀ ls : Array Slot, lv_has ls 5 [(4, .int (nI i)), (0, .ref h0), (1, .int v0), (2, .int v1), (3, .int v2)] → W p l e (headSpec wsX6_sheet ({ frames := 1, cells := 0, slots := 0, locals := 22 })).room s m ([.ref h0, .int v0, .int v1, .int v2] : List Value).toArray below meth c H locs 0 0 (MQ below (q_X6_sheet_0 G h0 kd mo st ro tp cd sr ir ih ss sq ce lw wo he sk na kp gb go fa ga vo v0 v1 v2 A) ([.ref h0, .int v0, .int v1, .int v2] : List Value).toArray s 0 0 A) (F0 m 70 ls []) := by
                intro n9
                induction n9 with
                | zero => intro i y hi hm9; exact absurd hm9 (Nat.not_lt_zero _)
                | succ n9 ih9 =>
                  intro i y hi hm9 H locs hP hD hS ls hl
                  refine lv_iload hx hb dX6_sheet_70 (lv_at hl 0 rfl) ?_
                  refine lv_bipush (v := 40) hx hb dX6_sheet_72 (by decide) ?_
                  refine lv_icmp_ge (tgt := 96) hx hb dX6_sheet_74 (by decide) (fun c_18 => ?_) (fun c_18 => ?_)
                  · skip
                    refine lv_iconst (v := 1) hx hb dX6_sheet_96 (by decide) ?_
                    have hpost : (fun (r : Int32) (u : Unit) => match u with | _ => r = (if (0 ≤ v0 ∧ v0 ≤ 3) ∧ (-1 ≤ v1 ∧ v1 ≤ 2) then (if v1 = -1 then 1 else if 40 < v2 then -2 else if v2 < 0 then -14 else 1) else -2)) 1 () := pp_X6_sheet_0_5 v0 v1 v2 p_4 p_9 c_11 c_12 c_16 c_17
                    exact W.iret (v := 1) hx hb hr (fun t ht hW => ⟨⟨1, (), rfl, hpost, trivial⟩, hS.F ht⟩) hS.2.2 dX6_sheet_97
                  · skip
                    have hi2 : i < 40 := by
                      rcases Nat.lt_or_ge i 40 with z | z
                      · exact z
                      · exact absurd (nI_le (a := 40) z (by omega)) c_18
                    refine lv_aload_n hx hb dX6_sheet_77 rfl (lv_at hl 1 rfl) ?_
                    refine va_get (D := G.1) (ci := 6) (v := .ref ce) (C := RX6) (T := TX6) (N := 42) hx hb hts hiX6 hown hK hP 0 rfl rfl 17 (by decide) kf43 (fun _ h9 => h9) rfl dX6_sheet_78 ?_
                    refine lv_bipush (v := 40) hx hb dX6_sheet_81 (by decide) ?_
                    refine lv_iload_n hx hb dX6_sheet_83 rfl (lv_at hl 2 rfl) ?_
                    refine lv_imul hx hb dX6_sheet_84 ?_
                    refine lv_iload hx hb dX6_sheet_85 (lv_at hl 0 rfl) ?_
                    refine lv_iadd hx hb dX6_sheet_87 ?_
                    refine lv_iconst (v := 0) hx hb dX6_sheet_88 (by decide) ?_
                    refine va_iast (D := G.1) hx hb hK hP hD hS 3 0 rfl rfl (i := ((40 * v0) + (nI i))) (x := 0) (g_ix40 (by assumption) hi2) dX6_sheet_89 (fun H locs hP hD hS => ?_)
                    have hP : va_P G.1 vwCl [(h0, .inr (6, [.int 0, .ref kd, .ref mo, .ref st, .int 0, .ref ro, .ref tp, .int 0, .ref cd, .ref sr, .int 1, .int 0, .int 0, .ref ir, .ref ih, .ref ss, .ref sq, .ref ce, .ref lw, .int 40, .int 40, .int 0, .int 0, .ref wo, .ref he, .int 0, .int 0, .int 5, .ref sk, .ref na, .ref kp, .int 0, .int 0, .int 0, .int 0, .ref gb, .ref go, .ref fa, .ref ga, .int 0, .int 0, .ref vo])), (ss, .inl (G.2.1, 4, .inl (upd (upd (upd (upd (upd (fun _ => 0) 0 (-1)) 1 (-1)) 2 (-1)) 3 (-1)) v0.toNatClampNeg v1))), (sq, .inl (G.2.1, 4, .inl (upd (fun _ => 0) v0.toNatClampNeg v2))), (ce, .inl (G.2.1, 160, .inl (upd y (((40 * v0) + (nI i)).toNatClampNeg) 0)))] H := hP
                    have hD : va_D A [(h0, .inr (6, [.int 0, .ref kd, .ref mo, .ref st, .int 0, .ref ro, .ref tp, .int 0, .ref cd, .ref sr, .int 1, .int 0, .int 0, .ref ir, .ref ih, .ref ss, .ref sq, .ref ce, .ref lw, .int 40, .int 40, .int 0, .int 0, .ref wo, .ref he, .int 0, .int 0, .int 5, .ref sk, .ref na, .ref kp, .int 0, .int 0, .int 0, .int 0, .ref gb, .ref go, .ref fa, .ref ga, .int 0, .int 0, .ref vo])), (ss, .inl (G.2.1, 4, .inl (upd (upd (upd (upd (upd (fun _ => 0) 0 (-1)) 1 (-1)) 2 (-1)) 3 (-1)) v0.toNatClampNeg v1))), (sq, .inl (G.2.1, 4, .inl (upd (fun _ => 0) v0.toNatClampNeg v2))), (ce, .inl (G.2.1, 160, .inl (upd y (((40 * v0) + (nI i)).toNatClampNeg) 0)))] := hD
                    refine lv_iinc (v := nI (i + 1)) (lv' := [(4, .int (nI (i + 1))), (0, .ref h0), (1, .int v0), (2, .int v1), (3, .int v2)]) hx hb dX6_sheet_90 hl (k := 0) rfl (nI_1 i) (by decide) rfl (fun ls hl => ?_)
                    refine lv_goto (tgt := 70) hx hb dX6_sheet_93 (by decide) ?_
                    exact ih9 (i + 1) (upd y (((40 * v0) + (nI i)).toNatClampNeg) 0) (hi2) (by omega) _ _ (hP.sub [0, 1, 2, 3] rfl) (hD.sub [0, 1, 2, 3] (by decide) rfl) hS ls (lv_sub hl [0, 1, 2, 3, 4] rfl)
              exact loop_70 (41) 0 (fun _ => 0) (Nat.zero_le _) (by omega) _ _ (hP.sub [0, 1, 2, 3] rfl) (hD.sub [0, 1, 2, 3] (by decide) rfl) hS ls (lv_sub hl [0, 1, 2, 3, 4] rfl)
            · skip
              refine lv_iconst (v := 0) hx hb dX6_sheet_61 (by decide) ?_
              refine lv_goto (tgt := 66) hx hb dX6_sheet_62 (by decide) ?_
              refine va_iast (D := G.1) hx hb hK hP hD hS 2 0 rfl rfl (i := v0) (x := 0) (g_in3 (by assumption)) dX6_sheet_66 (fun H locs hP hD hS => ?_)
              have hP : va_P G.1 vwCl [(h0, .inr (6, [.int 0, .ref kd, .ref mo, .ref st, .int 0, .ref ro, .ref tp, .int 0, .ref cd, .ref sr, .int 1, .int 0, .int 0, .ref ir, .ref ih, .ref ss, .ref sq, .ref ce, .ref lw, .int 40, .int 40, .int 0, .int 0, .ref wo, .ref he, .int 0, .int 0, .int 5, .ref sk, .ref na, .ref kp, .int 0, .int 0, .int 0, .int 0, .ref gb, .ref go, .ref fa, .ref ga, .int 0, .int 0, .ref vo])), (ss, .inl (G.2.1, 4, .inl (upd (upd (upd (upd (upd (fun _ => 0) 0 (-1)) 1 (-1)) 2 (-1)) 3 (-1)) v0.toNatClampNeg v1))), (sq, .inl (G.2.1, 4, .inl (upd (fun _ => 0) v0.toNatClampNeg 0))), (ce, .inl (G.2.1, 160, .inl (fun _ => 0)))] H := hP
              have hD : va_D A [(h0, .inr (6, [.int 0, .ref kd, .ref mo, .ref st, .int 0, .ref ro, .ref tp, .int 0, .ref cd, .ref sr, .int 1, .int 0, .int 0, .ref ir, .ref ih, .ref ss, .ref sq, .ref ce, .ref lw, .int 40, .int 40, .int 0, .int 0, .ref wo, .ref he, .int 0, .int 0, .int 5, .ref sk, .ref na, .ref kp, .int 0, .int 0, .int 0, .int 0, .ref gb, .ref go, .ref fa, .ref ga, .int 0, .int 0, .ref vo])), (ss, .inl (G.2.1, 4, .inl (upd (upd (upd (upd (upd (fun _ => 0) 0 (-1)) 1 (-1)) 2 (-1)) 3 (-1)) v0.toNatClampNeg v1))), (sq, .inl (G.2.1, 4, .inl (upd (fun _ => 0) v0.toNatClampNeg 0))), (ce, .inl (G.2.1, 160, .inl (fun _ => 0)))] := hD
              refine lv_iconst (v := 0) hx hb dX6_sheet_67 (by decide) ?_
              refine lv_istore (lv' := [(4, .int 0), (0, .ref h0), (1, .int v0), (2, .int v1), (3, .int v2)]) hx hb dX6_sheet_68 hl (by decide) rfl (fun ls hl => ?_)
              have loop_70 : ∀ (n9 : Nat) (i : Nat) (y : Nat → Int32), (i ≤ 40) → (40 - i) < n9 → ∀ (H : Heap) (locs : List Loc), va_P G.1 vwCl [(h0, .inr (6, [.int 0, .ref kd, .ref mo, .ref st, .int 0, .ref ro, .ref tp, .int 0, .ref cd, .ref sr, .int 1, .int 0, .int 0, .ref ir, .ref ih, .ref ss, .ref sq, .ref ce, .ref lw, .int 40, .int 40, .int 0, .int 0, .ref wo, .ref he, .int 0, .int 0, .int 5, .ref sk, .ref na, .ref kp, .int 0, .int 0, .int 0, .int 0, .ref gb, .ref go, .ref fa, .ref ga, .int 0, .int 0, .ref vo])), (ss, .inl (G.2.1, 4, .inl (upd (upd (upd (upd (upd (fun _ => 0) 0 (-1)) 1 (-1)) 2 (-1)) 3 (-1)) v0.toNatClampNeg v1))), (sq, .inl (G.2.1, 4, .inl (upd (fun _ => 0) v0.toNatClampNeg 0))), (ce, .inl (G.2.1, 160, .inl y))] H → va_D A [(h0, .inr (6, [.int 0, .ref kd, .ref mo, .ref st, .int 0, .ref ro, .ref tp, .int 0, .ref cd, .ref sr, .int 1, .int 0, .int 0, .ref ir, .ref ih, .ref ss, .ref sq, .ref ce, .ref lw, .int 40, .int 40, .int 0, .int 0, .ref wo, .ref he, .int 0, .int 0, .int 5, .ref sk, .ref na, .ref kp, .int 0, .int 0, .int 0, .int 0, .ref gb, .ref go, .ref fa, .ref ga, .int 0, .int 0, .ref vo])), (ss, .inl (G.2.1, 4, .inl (upd (upd (upd (upd (upd (fun _ => 0) 0 (-1)) 1 (-1)) 2 (-1)) 3 (-1)) v0.toNatClampNeg v1))), (sq, .inl (G.2.1, 4, .inl (upd (fun _ => 0) v0.toNatClampNeg 0))), (ce, .inl (G.2.1, 160, .inl y))] → va_S A s.heap H locs → ∀ ls : Array Slot, lv_has ls 5 [(4, .int (nI i)), (0, .ref h0), (1, .int v0), (2, .int v1), (3, .int v2)] → W p l e (headSpec wsX6_sheet ({ frames := 1, cells := 0, slots := 0, locals := 22 })).room s m ([.ref h0, .int v0, .int v1, .int v2] : List Value).toArray below meth c H locs 0 0 (MQ below (q_X6_sheet_0 G h0 kd mo st ro tp cd sr ir ih ss sq ce lw wo he sk na kp gb go fa ga vo v0 v1 v2 A) ([.ref h0, .int v0, .int v1, .int v2] : List Value).toArray s 0 0 A) (F0 m 70 ls []) := by
                intro n9
                induction n9 with
                | zero => intro i y hi hm9; exact absurd hm9 (Nat.not_lt_zero _)
                | succ n9 ih9 =>
                  intro i y hi hm9 H locs hP hD hS ls hl
                  refine lv_iload hx hb dX6_sheet_70 (lv_at hl 0 rfl) ?_
                  refine lv_bipush (v := 40) hx hb dX6_sheet_72 (by decide) ?_
                  refine lv_icmp_ge (tgt := 96) hx hb dX6_sheet_74 (by decide) (fun c_19 => ?_) (fun c_19 => ?_)
                  · skip
                    refine lv_iconst (v := 1) hx hb dX6_sheet_96 (by decide) ?_
                    have hpost : (fun (r : Int32) (u : Unit) => match u with | _ => r = (if (0 ≤ v0 ∧ v0 ≤ 3) ∧ (-1 ≤ v1 ∧ v1 ≤ 2) then (if v1 = -1 then 1 else if 40 < v2 then -2 else if v2 < 0 then -14 else 1) else -2)) 1 () := pp_X6_sheet_0_6 v0 v1 v2 p_4 p_9 c_11 c_12 c_16 c_17
                    exact W.iret (v := 1) hx hb hr (fun t ht hW => ⟨⟨1, (), rfl, hpost, trivial⟩, hS.F ht⟩) hS.2.2 dX6_sheet_97
                  · skip
                    have hi2 : i < 40 := by
                      rcases Nat.lt_or_ge i 40 with z | z
                      · exact z
                      · exact absurd (nI_le (a := 40) z (by omega)) c_19
                    refine lv_aload_n hx hb dX6_sheet_77 rfl (lv_at hl 1 rfl) ?_
                    refine va_get (D := G.1) (ci := 6) (v := .ref ce) (C := RX6) (T := TX6) (N := 42) hx hb hts hiX6 hown hK hP 0 rfl rfl 17 (by decide) kf43 (fun _ h9 => h9) rfl dX6_sheet_78 ?_
                    refine lv_bipush (v := 40) hx hb dX6_sheet_81 (by decide) ?_
                    refine lv_iload_n hx hb dX6_sheet_83 rfl (lv_at hl 2 rfl) ?_
                    refine lv_imul hx hb dX6_sheet_84 ?_
                    refine lv_iload hx hb dX6_sheet_85 (lv_at hl 0 rfl) ?_
                    refine lv_iadd hx hb dX6_sheet_87 ?_
                    refine lv_iconst (v := 0) hx hb dX6_sheet_88 (by decide) ?_
                    refine va_iast (D := G.1) hx hb hK hP hD hS 3 0 rfl rfl (i := ((40 * v0) + (nI i))) (x := 0) (g_ix40 (by assumption) hi2) dX6_sheet_89 (fun H locs hP hD hS => ?_)
                    have hP : va_P G.1 vwCl [(h0, .inr (6, [.int 0, .ref kd, .ref mo, .ref st, .int 0, .ref ro, .ref tp, .int 0, .ref cd, .ref sr, .int 1, .int 0, .int 0, .ref ir, .ref ih, .ref ss, .ref sq, .ref ce, .ref lw, .int 40, .int 40, .int 0, .int 0, .ref wo, .ref he, .int 0, .int 0, .int 5, .ref sk, .ref na, .ref kp, .int 0, .int 0, .int 0, .int 0, .ref gb, .ref go, .ref fa, .ref ga, .int 0, .int 0, .ref vo])), (ss, .inl (G.2.1, 4, .inl (upd (upd (upd (upd (upd (fun _ => 0) 0 (-1)) 1 (-1)) 2 (-1)) 3 (-1)) v0.toNatClampNeg v1))), (sq, .inl (G.2.1, 4, .inl (upd (fun _ => 0) v0.toNatClampNeg 0))), (ce, .inl (G.2.1, 160, .inl (upd y (((40 * v0) + (nI i)).toNatClampNeg) 0)))] H := hP
                    have hD : va_D A [(h0, .inr (6, [.int 0, .ref kd, .ref mo, .ref st, .int 0, .ref ro, .ref tp, .int 0, .ref cd, .ref sr, .int 1, .int 0, .int 0, .ref ir, .ref ih, .ref ss, .ref sq, .ref ce, .ref lw, .int 40, .int 40, .int 0, .int 0, .ref wo, .ref he, .int 0, .int 0, .int 5, .ref sk, .ref na, .ref kp, .int 0, .int 0, .int 0, .int 0, .ref gb, .ref go, .ref fa, .ref ga, .int 0, .int 0, .ref vo])), (ss, .inl (G.2.1, 4, .inl (upd (upd (upd (upd (upd (fun _ => 0) 0 (-1)) 1 (-1)) 2 (-1)) 3 (-1)) v0.toNatClampNeg v1))), (sq, .inl (G.2.1, 4, .inl (upd (fun _ => 0) v0.toNatClampNeg 0))), (ce, .inl (G.2.1, 160, .inl (upd y (((40 * v0) + (nI i)).toNatClampNeg) 0)))] := hD
                    refine lv_iinc (v := nI (i + 1)) (lv' := [(4, .int (nI (i + 1))), (0, .ref h0), (1, .int v0), (2, .int v1), (3, .int v2)]) hx hb dX6_sheet_90 hl (k := 0) rfl (nI_1 i) (by decide) rfl (fun ls hl => ?_)
                    refine lv_goto (tgt := 70) hx hb dX6_sheet_93 (by decide) ?_
                    exact ih9 (i + 1) (upd y (((40 * v0) + (nI i)).toNatClampNeg) 0) (hi2) (by omega) _ _ (hP.sub [0, 1, 2, 3] rfl) (hD.sub [0, 1, 2, 3] (by decide) rfl) hS ls (lv_sub hl [0, 1, 2, 3, 4] rfl)
              exact loop_70 (41) 0 (fun _ => 0) (Nat.zero_le _) (by omega) _ _ (hP.sub [0, 1, 2, 3] rfl) (hD.sub [0, 1, 2, 3] (by decide) rfl) hS ls (lv_sub hl [0, 1, 2, 3, 4] rfl)
          · skip
            refine lv_bipush (v := -14) hx hb dX6_sheet_41 (by decide) ?_
            have hpost : (fun (r : Int32) (u : Unit) => match u with | _ => r = (if (0 ≤ v0 ∧ v0 ≤ 3) ∧ (-1 ≤ v1 ∧ v1 ≤ 2) then (if v1 = -1 then 1 else if 40 < v2 then -2 else if v2 < 0 then -14 else 1) else -2)) (-14) () := pp_X6_sheet_0_7 v0 v1 v2 p_4 p_9 c_11 c_12 c_16
            exact W.iret (v := (-14)) hx hb hr (fun t ht hW => ⟨⟨(-14), (), rfl, hpost, trivial⟩, hS.F ht⟩) hS.2.2 dX6_sheet_43
      · skip
        refine lv_iload_n hx hb dX6_sheet_23 rfl (lv_at hl 3 rfl) ?_
        refine lv_bipush (v := 40) hx hb dX6_sheet_24 (by decide) ?_
        refine lv_icmp_le (tgt := 32) hx hb dX6_sheet_26 (by decide) (fun c_20 => ?_) (fun c_20 => ?_)
        · skip
          refine lv_iload_n hx hb dX6_sheet_32 rfl (lv_at hl 2 rfl) ?_
          refine lv_iconst (v := -1) hx hb dX6_sheet_33 (by decide) ?_
          refine lv_icmp_eq (tgt := 44) hx hb dX6_sheet_34 (by decide) (fun c_21 => ?_) (fun c_21 => ?_)
          · skip
            refine lv_aload_n hx hb dX6_sheet_44 rfl (lv_at hl 0 rfl) ?_
            refine va_get (D := G.1) (ci := 6) (v := .ref ss) (C := RX6) (T := TX6) (N := 42) hx hb hts hiX6 hown hK hP 0 rfl rfl 15 (by decide) kf37 (fun _ h9 => h9) rfl dX6_sheet_45 ?_
            refine lv_iload_n hx hb dX6_sheet_48 rfl (lv_at hl 1 rfl) ?_
            refine lv_iload_n hx hb dX6_sheet_49 rfl (lv_at hl 2 rfl) ?_
            refine va_iast (D := G.1) hx hb hK hP hD hS 1 0 rfl rfl (i := v0) (x := v1) (g_in3 (by assumption)) dX6_sheet_50 (fun H locs hP hD hS => ?_)
            have hP : va_P G.1 vwCl [(h0, .inr (6, [.int 0, .ref kd, .ref mo, .ref st, .int 0, .ref ro, .ref tp, .int 0, .ref cd, .ref sr, .int 1, .int 0, .int 0, .ref ir, .ref ih, .ref ss, .ref sq, .ref ce, .ref lw, .int 40, .int 40, .int 0, .int 0, .ref wo, .ref he, .int 0, .int 0, .int 5, .ref sk, .ref na, .ref kp, .int 0, .int 0, .int 0, .int 0, .ref gb, .ref go, .ref fa, .ref ga, .int 0, .int 0, .ref vo])), (ss, .inl (G.2.1, 4, .inl (upd (upd (upd (upd (upd (fun _ => 0) 0 (-1)) 1 (-1)) 2 (-1)) 3 (-1)) v0.toNatClampNeg v1))), (sq, .inl (G.2.1, 4, .inl (fun _ => 0))), (ce, .inl (G.2.1, 160, .inl (fun _ => 0)))] H := hP
            have hD : va_D A [(h0, .inr (6, [.int 0, .ref kd, .ref mo, .ref st, .int 0, .ref ro, .ref tp, .int 0, .ref cd, .ref sr, .int 1, .int 0, .int 0, .ref ir, .ref ih, .ref ss, .ref sq, .ref ce, .ref lw, .int 40, .int 40, .int 0, .int 0, .ref wo, .ref he, .int 0, .int 0, .int 5, .ref sk, .ref na, .ref kp, .int 0, .int 0, .int 0, .int 0, .ref gb, .ref go, .ref fa, .ref ga, .int 0, .int 0, .ref vo])), (ss, .inl (G.2.1, 4, .inl (upd (upd (upd (upd (upd (fun _ => 0) 0 (-1)) 1 (-1)) 2 (-1)) 3 (-1)) v0.toNatClampNeg v1))), (sq, .inl (G.2.1, 4, .inl (fun _ => 0))), (ce, .inl (G.2.1, 160, .inl (fun _ => 0)))] := hD
            refine lv_aload_n hx hb dX6_sheet_51 rfl (lv_at hl 0 rfl) ?_
            refine va_get (D := G.1) (ci := 6) (v := .ref sq) (C := RX6) (T := TX6) (N := 42) hx hb hts hiX6 hown hK hP 0 rfl rfl 16 (by decide) kf40 (fun _ h9 => h9) rfl dX6_sheet_52 ?_
            refine lv_iload_n hx hb dX6_sheet_55 rfl (lv_at hl 1 rfl) ?_
            refine lv_iload_n hx hb dX6_sheet_56 rfl (lv_at hl 2 rfl) ?_
            refine lv_iconst (v := -1) hx hb dX6_sheet_57 (by decide) ?_
            refine lv_icmp_ne (tgt := 65) hx hb dX6_sheet_58 (by decide) (fun c_22 => ?_) (fun c_22 => ?_)
            · skip
              refine lv_iload_n hx hb dX6_sheet_65 rfl (lv_at hl 3 rfl) ?_
              refine va_iast (D := G.1) hx hb hK hP hD hS 2 0 rfl rfl (i := v0) (x := v2) (g_in3 (by assumption)) dX6_sheet_66 (fun H locs hP hD hS => ?_)
              have hP : va_P G.1 vwCl [(h0, .inr (6, [.int 0, .ref kd, .ref mo, .ref st, .int 0, .ref ro, .ref tp, .int 0, .ref cd, .ref sr, .int 1, .int 0, .int 0, .ref ir, .ref ih, .ref ss, .ref sq, .ref ce, .ref lw, .int 40, .int 40, .int 0, .int 0, .ref wo, .ref he, .int 0, .int 0, .int 5, .ref sk, .ref na, .ref kp, .int 0, .int 0, .int 0, .int 0, .ref gb, .ref go, .ref fa, .ref ga, .int 0, .int 0, .ref vo])), (ss, .inl (G.2.1, 4, .inl (upd (upd (upd (upd (upd (fun _ => 0) 0 (-1)) 1 (-1)) 2 (-1)) 3 (-1)) v0.toNatClampNeg v1))), (sq, .inl (G.2.1, 4, .inl (upd (fun _ => 0) v0.toNatClampNeg v2))), (ce, .inl (G.2.1, 160, .inl (fun _ => 0)))] H := hP
              have hD : va_D A [(h0, .inr (6, [.int 0, .ref kd, .ref mo, .ref st, .int 0, .ref ro, .ref tp, .int 0, .ref cd, .ref sr, .int 1, .int 0, .int 0, .ref ir, .ref ih, .ref ss, .ref sq, .ref ce, .ref lw, .int 40, .int 40, .int 0, .int 0, .ref wo, .ref he, .int 0, .int 0, .int 5, .ref sk, .ref na, .ref kp, .int 0, .int 0, .int 0, .int 0, .ref gb, .ref go, .ref fa, .ref ga, .int 0, .int 0, .ref vo])), (ss, .inl (G.2.1, 4, .inl (upd (upd (upd (upd (upd (fun _ => 0) 0 (-1)) 1 (-1)) 2 (-1)) 3 (-1)) v0.toNatClampNeg v1))), (sq, .inl (G.2.1, 4, .inl (upd (fun _ => 0) v0.toNatClampNeg v2))), (ce, .inl (G.2.1, 160, .inl (fun _ => 0)))] := hD
              refine lv_iconst (v := 0) hx hb dX6_sheet_67 (by decide) ?_
              refine lv_istore (lv' := [(4, .int 0), (0, .ref h0), (1, .int v0), (2, .int v1), (3, .int v2)]) hx hb dX6_sheet_68 hl (by decide) rfl (fun ls hl => ?_)
              have loop_70 : ∀ (n9 : Nat) (i : Nat) (y : Nat → Int32), (i ≤ 40) → (40 - i) < n9 → ∀ (H : Heap) (locs : List Loc), va_P G.1 vwCl [(h0, .inr (6, [.int 0, .ref kd, .ref mo, .ref st, .int 0, .ref ro, .ref tp, .int 0, .ref cd, .ref sr, .int 1, .int 0, .int 0, .ref ir, .ref ih, .ref ss, .ref sq, .ref ce, .ref lw, .int 40, .int 40, .int 0, .int 0, .ref wo, .ref he, .int 0, .int 0, .int 5, .ref sk, .ref na, .ref kp, .int 0, .int 0, .int 0, .int 0, .ref gb, .ref go, .ref fa, .ref ga, .int 0, .int 0, .ref vo])), (ss, .inl (G.2.1, 4, .inl (upd (upd (upd (upd (upd (fun _ => 0) 0 (-1)) 1 (-1)) 2 (-1)) 3 (-1)) v0.toNatClampNeg v1))), (sq, .inl (G.2.1, 4, .inl (upd (fun _ => 0) v0.toNatClampNeg v2))), (ce, .inl (G.2.1, 160, .inl y))] H → va_D A [(h0, .inr (6, [.int 0, .ref kd, .ref mo, .ref st, .int 0, .ref ro, .ref tp, .int 0, .ref cd, .ref sr, .int 1, .int 0, .int 0, .ref ir, .ref ih, .ref ss, .ref sq, .ref ce, .ref lw, .int 40, .int 40, .int 0, .int 0, .ref wo, .ref he, .int 0, .int 0, .int 5, .ref sk, .ref na, .ref kp, .int 0, .int 0, .int 0, .int 0, .ref gb, .ref go, .ref fa, .ref ga, .int 0, .int 0, .ref vo])), (ss, .inl (G.2.1, 4, .inl (upd (upd (upd (upd (upd (fun _ => 0) 0 (-1)) 1 (-1)) 2 (-1)) 3 (-1)) v0.toNatClampNeg v1))), (sq, .inl (G.2.1, 4, .inl (upd (fun _ => 0) v0.toNatClampNeg v2))), (ce, .inl (G.2.1, 160, .inl y))] → va_S A s.heap H locs → ∀ ls : Array Slot, lv_has ls 5 [(4, .int (nI i)), (0, .ref h0), (1, .int v0), (2, .int v1), (3, .int v2)] → W p l e (headSpec wsX6_sheet ({ frames := 1, cells := 0, slots := 0, locals := 22 })).room s m ([.ref h0, .int v0, .int v1, .int v2] : List Value).toArray below meth c H locs 0 0 (MQ below (q_X6_sheet_0 G h0 kd mo st ro tp cd sr ir ih ss sq ce lw wo he sk na kp gb go fa ga vo v0 v1 v2 A) ([.ref h0, .int v0, .int v1, .int v2] : List Value).toArray s 0 0 A) (F0 m 70 ls []) := by
                intro n9
                induction n9 with
                | zero => intro i y hi hm9; exact absurd hm9 (Nat.not_lt_zero _)
                | succ n9 ih9 =>
                  intro i y hi hm9 H locs hP hD hS ls hl
                  refine lv_iload hx hb dX6_sheet_70 (lv_at hl 0 rfl) ?_
                  refine lv_bipush (v := 40) hx hb dX6_sheet_72 (by decide) ?_
                  refine lv_icmp_ge (tgt := 96) hx hb dX6_sheet_74 (by decide) (fun c_23 => ?_) (fun c_23 => ?_)
                  · skip
                    refine lv_iconst (v := 1) hx hb dX6_sheet_96 (by decide) ?_
                    have hpost : (fun (r : Int32) (u : Unit) => match u with | _ => r = (if (0 ≤ v0 ∧ v0 ≤ 3) ∧ (-1 ≤ v1 ∧ v1 ≤ 2) then (if v1 = -1 then 1 else if 40 < v2 then -2 else if v2 < 0 then -14 else 1) else -2)) 1 () := pp_X6_sheet_0_8 v0 v1 v2 p_4 p_9 c_11 c_20 c_21 c_22
                    exact W.iret (v := 1) hx hb hr (fun t ht hW => ⟨⟨1, (), rfl, hpost, trivial⟩, hS.F ht⟩) hS.2.2 dX6_sheet_97
                  · skip
                    have hi2 : i < 40 := by
                      rcases Nat.lt_or_ge i 40 with z | z
                      · exact z
                      · exact absurd (nI_le (a := 40) z (by omega)) c_23
                    refine lv_aload_n hx hb dX6_sheet_77 rfl (lv_at hl 1 rfl) ?_
                    refine va_get (D := G.1) (ci := 6) (v := .ref ce) (C := RX6) (T := TX6) (N := 42) hx hb hts hiX6 hown hK hP 0 rfl rfl 17 (by decide) kf43 (fun _ h9 => h9) rfl dX6_sheet_78 ?_
                    refine lv_bipush (v := 40) hx hb dX6_sheet_81 (by decide) ?_
                    refine lv_iload_n hx hb dX6_sheet_83 rfl (lv_at hl 2 rfl) ?_
                    refine lv_imul hx hb dX6_sheet_84 ?_
                    refine lv_iload hx hb dX6_sheet_85 (lv_at hl 0 rfl) ?_
                    refine lv_iadd hx hb dX6_sheet_87 ?_
                    refine lv_iconst (v := 0) hx hb dX6_sheet_88 (by decide) ?_
                    refine va_iast (D := G.1) hx hb hK hP hD hS 3 0 rfl rfl (i := ((40 * v0) + (nI i))) (x := 0) (g_ix40 (by assumption) hi2) dX6_sheet_89 (fun H locs hP hD hS => ?_)
                    have hP : va_P G.1 vwCl [(h0, .inr (6, [.int 0, .ref kd, .ref mo, .ref st, .int 0, .ref ro, .ref tp, .int 0, .ref cd, .ref sr, .int 1, .int 0, .int 0, .ref ir, .ref ih, .ref ss, .ref sq, .ref ce, .ref lw, .int 40, .int 40, .int 0, .int 0, .ref wo, .ref he, .int 0, .int 0, .int 5, .ref sk, .ref na, .ref kp, .int 0, .int 0, .int 0, .int 0, .ref gb, .ref go, .ref fa, .ref ga, .int 0, .int 0, .ref vo])), (ss, .inl (G.2.1, 4, .inl (upd (upd (upd (upd (upd (fun _ => 0) 0 (-1)) 1 (-1)) 2 (-1)) 3 (-1)) v0.toNatClampNeg v1))), (sq, .inl (G.2.1, 4, .inl (upd (fun _ => 0) v0.toNatClampNeg v2))), (ce, .inl (G.2.1, 160, .inl (upd y (((40 * v0) + (nI i)).toNatClampNeg) 0)))] H := hP
                    have hD : va_D A [(h0, .inr (6, [.int 0, .ref kd, .ref mo, .ref st, .int 0, .ref ro, .ref tp, .int 0, .ref cd, .ref sr, .int 1, .int 0, .int 0, .ref ir, .ref ih, .ref ss, .ref sq, .ref ce, .ref lw, .int 40, .int 40, .int 0, .int 0, .ref wo, .ref he, .int 0, .int 0, .int 5, .ref sk, .ref na, .ref kp, .int 0, .int 0, .int 0, .int 0, .ref gb, .ref go, .ref fa, .ref ga, .int 0, .int 0, .ref vo])), (ss, .inl (G.2.1, 4, .inl (upd (upd (upd (upd (upd (fun _ => 0) 0 (-1)) 1 (-1)) 2 (-1)) 3 (-1)) v0.toNatClampNeg v1))), (sq, .inl (G.2.1, 4, .inl (upd (fun _ => 0) v0.toNatClampNeg v2))), (ce, .inl (G.2.1, 160, .inl (upd y (((40 * v0) + (nI i)).toNatClampNeg) 0)))] := hD
                    refine lv_iinc (v := nI (i + 1)) (lv' := [(4, .int (nI (i + 1))), (0, .ref h0), (1, .int v0), (2, .int v1), (3, .int v2)]) hx hb dX6_sheet_90 hl (k := 0) rfl (nI_1 i) (by decide) rfl (fun ls hl => ?_)
                    refine lv_goto (tgt := 70) hx hb dX6_sheet_93 (by decide) ?_
                    exact ih9 (i + 1) (upd y (((40 * v0) + (nI i)).toNatClampNeg) 0) (hi2) (by omega) _ _ (hP.sub [0, 1, 2, 3] rfl) (hD.sub [0, 1, 2, 3] (by decide) rfl) hS ls (lv_sub hl [0, 1, 2, 3, 4] rfl)
              exact loop_70 (41) 0 (fun _ => 0) (Nat.zero_le _) (by omega) _ _ (hP.sub [0, 1, 2, 3] rfl) (hD.sub [0, 1, 2, 3] (by decide) rfl) hS ls (lv_sub hl [0, 1, 2, 3, 4] rfl)
            · skip
              refine lv_iconst (v := 0) hx hb dX6_sheet_61 (by decide) ?_
              refine lv_goto (tgt := 66) hx hb dX6_sheet_62 (by decide) ?_
              refine va_iast (D := G.1) hx hb hK hP hD hS 2 0 rfl rfl (i := v0) (x := 0) (g_in3 (by assumption)) dX6_sheet_66 (fun H locs hP hD hS => ?_)
              have hP : va_P G.1 vwCl [(h0, .inr (6, [.int 0, .ref kd, .ref mo, .ref st, .int 0, .ref ro, .ref tp, .int 0, .ref cd, .ref sr, .int 1, .int 0, .int 0, .ref ir, .ref ih, .ref ss, .ref sq, .ref ce, .ref lw, .int 40, .int 40, .int 0, .int 0, .ref wo, .ref he, .int 0, .int 0, .int 5, .ref sk, .ref na, .ref kp, .int 0, .int 0, .int 0, .int 0, .ref gb, .ref go, .ref fa, .ref ga, .int 0, .int 0, .ref vo])), (ss, .inl (G.2.1, 4, .inl (upd (upd (upd (upd (upd (fun _ => 0) 0 (-1)) 1 (-1)) 2 (-1)) 3 (-1)) v0.toNatClampNeg v1))), (sq, .inl (G.2.1, 4, .inl (upd (fun _ => 0) v0.toNatClampNeg 0))), (ce, .inl (G.2.1, 160, .inl (fun _ => 0)))] H := hP
              have hD : va_D A [(h0, .inr (6, [.int 0, .ref kd, .ref mo, .ref st, .int 0, .ref ro, .ref tp, .int 0, .ref cd, .ref sr, .int 1, .int 0, .int 0, .ref ir, .ref ih, .ref ss, .ref sq, .ref ce, .ref lw, .int 40, .int 40, .int 0, .int 0, .ref wo, .ref he, .int 0, .int 0, .int 5, .ref sk, .ref na, .ref kp, .int 0, .int 0, .int 0, .int 0, .ref gb, .ref go, .ref fa, .ref ga, .int 0, .int 0, .ref vo])), (ss, .inl (G.2.1, 4, .inl (upd (upd (upd (upd (upd (fun _ => 0) 0 (-1)) 1 (-1)) 2 (-1)) 3 (-1)) v0.toNatClampNeg v1))), (sq, .inl (G.2.1, 4, .inl (upd (fun _ => 0) v0.toNatClampNeg 0))), (ce, .inl (G.2.1, 160, .inl (fun _ => 0)))] := hD
              refine lv_iconst (v := 0) hx hb dX6_sheet_67 (by decide) ?_
              refine lv_istore (lv' := [(4, .int 0), (0, .ref h0), (1, .int v0), (2, .int v1), (3, .int v2)]) hx hb dX6_sheet_68 hl (by decide) rfl (fun ls hl => ?_)
              have loop_70 : ∀ (n9 : Nat) (i : Nat) (y : Nat → Int32), (i ≤ 40) → (40 - i) < n9 → ∀ (H : Heap) (locs : List Loc), va_P G.1 vwCl [(h0, .inr (6, [.int 0, .ref kd, .ref mo, .ref st, .int 0, .ref ro, .ref tp, .int 0, .ref cd, .ref sr, .int 1, .int 0, .int 0, .ref ir, .ref ih, .ref ss, .ref sq, .ref ce, .ref lw, .int 40, .int 40, .int 0, .int 0, .ref wo, .ref he, .int 0, .int 0, .int 5, .ref sk, .ref na, .ref kp, .int 0, .int 0, .int 0, .int 0, .ref gb, .ref go, .ref fa, .ref ga, .int 0, .int 0, .ref vo])), (ss, .inl (G.2.1, 4, .inl (upd (upd (upd (upd (upd (fun _ => 0) 0 (-1)) 1 (-1)) 2 (-1)) 3 (-1)) v0.toNatClampNeg v1))), (sq, .inl (G.2.1, 4, .inl (upd (fun _ => 0) v0.toNatClampNeg 0))), (ce, .inl (G.2.1, 160, .inl y))] H → va_D A [(h0, .inr (6, [.int 0, .ref kd, .ref mo, .ref st, .int 0, .ref ro, .ref tp, .int 0, .ref cd, .ref sr, .int 1, .int 0, .int 0, .ref ir, .ref ih, .ref ss, .ref sq, .ref ce, .ref lw, .int 40, .int 40, .int 0, .int 0, .ref wo, .ref he, .int 0, .int 0, .int 5, .ref sk, .ref na, .ref kp, .int 0, .int 0, .int 0, .int 0, .ref gb, .ref go, .ref fa, .ref ga, .int 0, .int 0, .ref vo])), (ss, .inl (G.2.1, 4, .inl (upd (upd (upd (upd (upd (fun _ => 0) 0 (-1)) 1 (-1)) 2 (-1)) 3 (-1)) v0.toNatClampNeg v1))), (sq, .inl (G.2.1, 4, .inl (upd (fun _ => 0) v0.toNatClampNeg 0))), (ce, .inl (G.2.1, 160, .inl y))] → va_S A s.heap H locs → ∀ ls : Array Slot, lv_has ls 5 [(4, .int (nI i)), (0, .ref h0), (1, .int v0), (2, .int v1), (3, .int v2)] → W p l e (headSpec wsX6_sheet ({ frames := 1, cells := 0, slots := 0, locals := 22 })).room s m ([.ref h0, .int v0, .int v1, .int v2] : List Value).toArray below meth c H locs 0 0 (MQ below (q_X6_sheet_0 G h0 kd mo st ro tp cd sr ir ih ss sq ce lw wo he sk na kp gb go fa ga vo v0 v1 v2 A) ([.ref h0, .int v0, .int v1, .int v2] : List Value).toArray s 0 0 A) (F0 m 70 ls []) := by
                intro n9
                induction n9 with
                | zero => intro i y hi hm9; exact absurd hm9 (Nat.not_lt_zero _)
                | succ n9 ih9 =>
                  intro i y hi hm9 H locs hP hD hS ls hl
                  refine lv_iload hx hb dX6_sheet_70 (lv_at hl 0 rfl) ?_
                  refine lv_bipush (v := 40) hx hb dX6_sheet_72 (by decide) ?_
                  refine lv_icmp_ge (tgt := 96) hx hb dX6_sheet_74 (by decide) (fun c_24 => ?_) (fun c_24 => ?_)
                  · skip
                    refine lv_iconst (v := 1) hx hb dX6_sheet_96 (by decide) ?_
                    have hpost : (fun (r : Int32) (u : Unit) => match u with | _ => r = (if (0 ≤ v0 ∧ v0 ≤ 3) ∧ (-1 ≤ v1 ∧ v1 ≤ 2) then (if v1 = -1 then 1 else if 40 < v2 then -2 else if v2 < 0 then -14 else 1) else -2)) 1 () := pp_X6_sheet_0_9 v0 v1 v2 p_4 p_9 c_11 c_20 c_21 c_22
                    exact W.iret (v := 1) hx hb hr (fun t ht hW => ⟨⟨1, (), rfl, hpost, trivial⟩, hS.F ht⟩) hS.2.2 dX6_sheet_97
                  · skip
                    have hi2 : i < 40 := by
                      rcases Nat.lt_or_ge i 40 with z | z
                      · exact z
                      · exact absurd (nI_le (a := 40) z (by omega)) c_24
                    refine lv_aload_n hx hb dX6_sheet_77 rfl (lv_at hl 1 rfl) ?_
                    refine va_get (D := G.1) (ci := 6) (v := .ref ce) (C := RX6) (T := TX6) (N := 42) hx hb hts hiX6 hown hK hP 0 rfl rfl 17 (by decide) kf43 (fun _ h9 => h9) rfl dX6_sheet_78 ?_
                    refine lv_bipush (v := 40) hx hb dX6_sheet_81 (by decide) ?_
                    refine lv_iload_n hx hb dX6_sheet_83 rfl (lv_at hl 2 rfl) ?_
                    refine lv_imul hx hb dX6_sheet_84 ?_
                    refine lv_iload hx hb dX6_sheet_85 (lv_at hl 0 rfl) ?_
                    refine lv_iadd hx hb dX6_sheet_87 ?_
                    refine lv_iconst (v := 0) hx hb dX6_sheet_88 (by decide) ?_
                    refine va_iast (D := G.1) hx hb hK hP hD hS 3 0 rfl rfl (i := ((40 * v0) + (nI i))) (x := 0) (g_ix40 (by assumption) hi2) dX6_sheet_89 (fun H locs hP hD hS => ?_)
                    have hP : va_P G.1 vwCl [(h0, .inr (6, [.int 0, .ref kd, .ref mo, .ref st, .int 0, .ref ro, .ref tp, .int 0, .ref cd, .ref sr, .int 1, .int 0, .int 0, .ref ir, .ref ih, .ref ss, .ref sq, .ref ce, .ref lw, .int 40, .int 40, .int 0, .int 0, .ref wo, .ref he, .int 0, .int 0, .int 5, .ref sk, .ref na, .ref kp, .int 0, .int 0, .int 0, .int 0, .ref gb, .ref go, .ref fa, .ref ga, .int 0, .int 0, .ref vo])), (ss, .inl (G.2.1, 4, .inl (upd (upd (upd (upd (upd (fun _ => 0) 0 (-1)) 1 (-1)) 2 (-1)) 3 (-1)) v0.toNatClampNeg v1))), (sq, .inl (G.2.1, 4, .inl (upd (fun _ => 0) v0.toNatClampNeg 0))), (ce, .inl (G.2.1, 160, .inl (upd y (((40 * v0) + (nI i)).toNatClampNeg) 0)))] H := hP
                    have hD : va_D A [(h0, .inr (6, [.int 0, .ref kd, .ref mo, .ref st, .int 0, .ref ro, .ref tp, .int 0, .ref cd, .ref sr, .int 1, .int 0, .int 0, .ref ir, .ref ih, .ref ss, .ref sq, .ref ce, .ref lw, .int 40, .int 40, .int 0, .int 0, .ref wo, .ref he, .int 0, .int 0, .int 5, .ref sk, .ref na, .ref kp, .int 0, .int 0, .int 0, .int 0, .ref gb, .ref go, .ref fa, .ref ga, .int 0, .int 0, .ref vo])), (ss, .inl (G.2.1, 4, .inl (upd (upd (upd (upd (upd (fun _ => 0) 0 (-1)) 1 (-1)) 2 (-1)) 3 (-1)) v0.toNatClampNeg v1))), (sq, .inl (G.2.1, 4, .inl (upd (fun _ => 0) v0.toNatClampNeg 0))), (ce, .inl (G.2.1, 160, .inl (upd y (((40 * v0) + (nI i)).toNatClampNeg) 0)))] := hD
                    refine lv_iinc (v := nI (i + 1)) (lv' := [(4, .int (nI (i + 1))), (0, .ref h0), (1, .int v0), (2, .int v1), (3, .int v2)]) hx hb dX6_sheet_90 hl (k := 0) rfl (nI_1 i) (by decide) rfl (fun ls hl => ?_)
                    refine lv_goto (tgt := 70) hx hb dX6_sheet_93 (by decide) ?_
                    exact ih9 (i + 1) (upd y (((40 * v0) + (nI i)).toNatClampNeg) 0) (hi2) (by omega) _ _ (hP.sub [0, 1, 2, 3] rfl) (hD.sub [0, 1, 2, 3] (by decide) rfl) hS ls (lv_sub hl [0, 1, 2, 3, 4] rfl)
              exact loop_70 (41) 0 (fun _ => 0) (Nat.zero_le _) (by omega) _ _ (hP.sub [0, 1, 2, 3] rfl) (hD.sub [0, 1, 2, 3] (by decide) rfl) hS ls (lv_sub hl [0, 1, 2, 3, 4] rfl)
          · skip
            refine lv_iload_n hx hb dX6_sheet_37 rfl (lv_at hl 3 rfl) ?_
            refine lv_if_ge (tgt := 44) hx hb dX6_sheet_38 (by decide) (fun c_25 => ?_) (fun c_25 => ?_)
            · skip
              refine lv_aload_n hx hb dX6_sheet_44 rfl (lv_at hl 0 rfl) ?_
              refine va_get (D := G.1) (ci := 6) (v := .ref ss) (C := RX6) (T := TX6) (N := 42) hx hb hts hiX6 hown hK hP 0 rfl rfl 15 (by decide) kf37 (fun _ h9 => h9) rfl dX6_sheet_45 ?_
              refine lv_iload_n hx hb dX6_sheet_48 rfl (lv_at hl 1 rfl) ?_
              refine lv_iload_n hx hb dX6_sheet_49 rfl (lv_at hl 2 rfl) ?_
              refine va_iast (D := G.1) hx hb hK hP hD hS 1 0 rfl rfl (i := v0) (x := v1) (g_in3 (by assumption)) dX6_sheet_50 (fun H locs hP hD hS => ?_)
              have hP : va_P G.1 vwCl [(h0, .inr (6, [.int 0, .ref kd, .ref mo, .ref st, .int 0, .ref ro, .ref tp, .int 0, .ref cd, .ref sr, .int 1, .int 0, .int 0, .ref ir, .ref ih, .ref ss, .ref sq, .ref ce, .ref lw, .int 40, .int 40, .int 0, .int 0, .ref wo, .ref he, .int 0, .int 0, .int 5, .ref sk, .ref na, .ref kp, .int 0, .int 0, .int 0, .int 0, .ref gb, .ref go, .ref fa, .ref ga, .int 0, .int 0, .ref vo])), (ss, .inl (G.2.1, 4, .inl (upd (upd (upd (upd (upd (fun _ => 0) 0 (-1)) 1 (-1)) 2 (-1)) 3 (-1)) v0.toNatClampNeg v1))), (sq, .inl (G.2.1, 4, .inl (fun _ => 0))), (ce, .inl (G.2.1, 160, .inl (fun _ => 0)))] H := hP
              have hD : va_D A [(h0, .inr (6, [.int 0, .ref kd, .ref mo, .ref st, .int 0, .ref ro, .ref tp, .int 0, .ref cd, .ref sr, .int 1, .int 0, .int 0, .ref ir, .ref ih, .ref ss, .ref sq, .ref ce, .ref lw, .int 40, .int 40, .int 0, .int 0, .ref wo, .ref he, .int 0, .int 0, .int 5, .ref sk, .ref na, .ref kp, .int 0, .int 0, .int 0, .int 0, .ref gb, .ref go, .ref fa, .ref ga, .int 0, .int 0, .ref vo])), (ss, .inl (G.2.1, 4, .inl (upd (upd (upd (upd (upd (fun _ => 0) 0 (-1)) 1 (-1)) 2 (-1)) 3 (-1)) v0.toNatClampNeg v1))), (sq, .inl (G.2.1, 4, .inl (fun _ => 0))), (ce, .inl (G.2.1, 160, .inl (fun _ => 0)))] := hD
              refine lv_aload_n hx hb dX6_sheet_51 rfl (lv_at hl 0 rfl) ?_
              refine va_get (D := G.1) (ci := 6) (v := .ref sq) (C := RX6) (T := TX6) (N := 42) hx hb hts hiX6 hown hK hP 0 rfl rfl 16 (by decide) kf40 (fun _ h9 => h9) rfl dX6_sheet_52 ?_
              refine lv_iload_n hx hb dX6_sheet_55 rfl (lv_at hl 1 rfl) ?_
              refine lv_iload_n hx hb dX6_sheet_56 rfl (lv_at hl 2 rfl) ?_
              refine lv_iconst (v := -1) hx hb dX6_sheet_57 (by decide) ?_
              refine lv_icmp_ne (tgt := 65) hx hb dX6_sheet_58 (by decide) (fun c_26 => ?_) (fun c_26 => ?_)
              · skip
                refine lv_iload_n hx hb dX6_sheet_65 rfl (lv_at hl 3 rfl) ?_
                refine va_iast (D := G.1) hx hb hK hP hD hS 2 0 rfl rfl (i := v0) (x := v2) (g_in3 (by assumption)) dX6_sheet_66 (fun H locs hP hD hS => ?_)
                have hP : va_P G.1 vwCl [(h0, .inr (6, [.int 0, .ref kd, .ref mo, .ref st, .int 0, .ref ro, .ref tp, .int 0, .ref cd, .ref sr, .int 1, .int 0, .int 0, .ref ir, .ref ih, .ref ss, .ref sq, .ref ce, .ref lw, .int 40, .int 40, .int 0, .int 0, .ref wo, .ref he, .int 0, .int 0, .int 5, .ref sk, .ref na, .ref kp, .int 0, .int 0, .int 0, .int 0, .ref gb, .ref go, .ref fa, .ref ga, .int 0, .int 0, .ref vo])), (ss, .inl (G.2.1, 4, .inl (upd (upd (upd (upd (upd (fun _ => 0) 0 (-1)) 1 (-1)) 2 (-1)) 3 (-1)) v0.toNatClampNeg v1))), (sq, .inl (G.2.1, 4, .inl (upd (fun _ => 0) v0.toNatClampNeg v2))), (ce, .inl (G.2.1, 160, .inl (fun _ => 0)))] H := hP
                have hD : va_D A [(h0, .inr (6, [.int 0, .ref kd, .ref mo, .ref st, .int 0, .ref ro, .ref tp, .int 0, .ref cd, .ref sr, .int 1, .int 0, .int 0, .ref ir, .ref ih, .ref ss, .ref sq, .ref ce, .ref lw, .int 40, .int 40, .int 0, .int 0, .ref wo, .ref he, .int 0, .int 0, .int 5, .ref sk, .ref na, .ref kp, .int 0, .int 0, .int 0, .int 0, .ref gb, .ref go, .ref fa, .ref ga, .int 0, .int 0, .ref vo])), (ss, .inl (G.2.1, 4, .inl (upd (upd (upd (upd (upd (fun _ => 0) 0 (-1)) 1 (-1)) 2 (-1)) 3 (-1)) v0.toNatClampNeg v1))), (sq, .inl (G.2.1, 4, .inl (upd (fun _ => 0) v0.toNatClampNeg v2))), (ce, .inl (G.2.1, 160, .inl (fun _ => 0)))] := hD
                refine lv_iconst (v := 0) hx hb dX6_sheet_67 (by decide) ?_
                refine lv_istore (lv' := [(4, .int 0), (0, .ref h0), (1, .int v0), (2, .int v1), (3, .int v2)]) hx hb dX6_sheet_68 hl (by decide) rfl (fun ls hl => ?_)
                have loop_70 : ∀ (n9 : Nat) (i : Nat) (y : Nat → Int32), (i ≤ 40) → (40 - i) < n9 → ∀ (H : Heap) (locs : List Loc), va_P G.1 vwCl [(h0, .inr (6, [.int 0, .ref kd, .ref mo, .ref st, .int 0, .ref ro, .ref tp, .int 0, .ref cd, .ref sr, .int 1, .int 0, .int 0, .ref ir, .ref ih, .ref ss, .ref sq, .ref ce, .ref lw, .int 40, .int 40, .int 0, .int 0, .ref wo, .ref he, .int 0, .int 0, .int 5, .ref sk, .ref na, .ref kp, .int 0, .int 0, .int 0, .int 0, .ref gb, .ref go, .ref fa, .ref ga, .int 0, .int 0, .ref vo])), (ss, .inl (G.2.1, 4, .inl (upd (upd (upd (upd (upd (fun _ => 0) 0 (-1)) 1 (-1)) 2 (-1)) 3 (-1)) v0.toNatClampNeg v1))), (sq, .inl (G.2.1, 4, .inl (upd (fun _ => 0) v0.toNatClampNeg v2))), (ce, .inl (G.2.1, 160, .inl y))] H → va_D A [(h0, .inr (6, [.int 0, .ref kd, .ref mo, .ref st, .int 0, .ref ro, .ref tp, .int 0, .ref cd, .ref sr, .int 1, .int 0, .int 0, .ref ir, .ref ih, .ref ss, .ref sq, .ref ce, .ref lw, .int 40, .int 40, .int 0, .int 0, .ref wo, .ref he, .int 0, .int 0, .int 5, .ref sk, .ref na, .ref kp, .int 0, .int 0, .int 0, .int 0, .ref gb, .ref go, .ref fa, .ref ga, .int 0, .int 0, .ref vo])), (ss, .inl (G.2.1, 4, .inl (upd (upd (upd (upd (upd (fun _ => 0) 0 (-1)) 1 (-1)) 2 (-1)) 3 (-1)) v0.toNatClampNeg v1))), (sq, .inl (G.2.1, 4, .inl (upd (fun _ => 0) v0.toNatClampNeg v2))), (ce, .inl (G.2.1, 160, .inl y))] → va_S A s.heap H locs → ∀ ls : Array Slot, lv_has ls 5 [(4, .int (nI i)), (0, .ref h0), (1, .int v0), (2, .int v1), (3, .int v2)] → W p l e (headSpec wsX6_sheet ({ frames := 1, cells := 0, slots := 0, locals := 22 })).room s m ([.ref h0, .int v0, .int v1, .int v2] : List Value).toArray below meth c H locs 0 0 (MQ below (q_X6_sheet_0 G h0 kd mo st ro tp cd sr ir ih ss sq ce lw wo he sk na kp gb go fa ga vo v0 v1 v2 A) ([.ref h0, .int v0, .int v1, .int v2] : List Value).toArray s 0 0 A) (F0 m 70 ls []) := by
                  intro n9
                  induction n9 with
                  | zero => intro i y hi hm9; exact absurd hm9 (Nat.not_lt_zero _)
                  | succ n9 ih9 =>
                    intro i y hi hm9 H locs hP hD hS ls hl
                    refine lv_iload hx hb dX6_sheet_70 (lv_at hl 0 rfl) ?_
                    refine lv_bipush (v := 40) hx hb dX6_sheet_72 (by decide) ?_
                    refine lv_icmp_ge (tgt := 96) hx hb dX6_sheet_74 (by decide) (fun c_27 => ?_) (fun c_27 => ?_)
                    · skip
                      refine lv_iconst (v := 1) hx hb dX6_sheet_96 (by decide) ?_
                      have hpost : (fun (r : Int32) (u : Unit) => match u with | _ => r = (if (0 ≤ v0 ∧ v0 ≤ 3) ∧ (-1 ≤ v1 ∧ v1 ≤ 2) then (if v1 = -1 then 1 else if 40 < v2 then -2 else if v2 < 0 then -14 else 1) else -2)) 1 () := pp_X6_sheet_0_10 v0 v1 v2 p_4 p_9 c_11 c_20 c_21 c_25 c_26
                      exact W.iret (v := 1) hx hb hr (fun t ht hW => ⟨⟨1, (), rfl, hpost, trivial⟩, hS.F ht⟩) hS.2.2 dX6_sheet_97
                    · skip
                      have hi2 : i < 40 := by
                        rcases Nat.lt_or_ge i 40 with z | z
                        · exact z
                        · exact absurd (nI_le (a := 40) z (by omega)) c_27
                      refine lv_aload_n hx hb dX6_sheet_77 rfl (lv_at hl 1 rfl) ?_
                      refine va_get (D := G.1) (ci := 6) (v := .ref ce) (C := RX6) (T := TX6) (N := 42) hx hb hts hiX6 hown hK hP 0 rfl rfl 17 (by decide) kf43 (fun _ h9 => h9) rfl dX6_sheet_78 ?_
                      refine lv_bipush (v := 40) hx hb dX6_sheet_81 (by decide) ?_
                      refine lv_iload_n hx hb dX6_sheet_83 rfl (lv_at hl 2 rfl) ?_
                      refine lv_imul hx hb dX6_sheet_84 ?_
                      refine lv_iload hx hb dX6_sheet_85 (lv_at hl 0 rfl) ?_
                      refine lv_iadd hx hb dX6_sheet_87 ?_
                      refine lv_iconst (v := 0) hx hb dX6_sheet_88 (by decide) ?_
                      refine va_iast (D := G.1) hx hb hK hP hD hS 3 0 rfl rfl (i := ((40 * v0) + (nI i))) (x := 0) (g_ix40 (by assumption) hi2) dX6_sheet_89 (fun H locs hP hD hS => ?_)
                      have hP : va_P G.1 vwCl [(h0, .inr (6, [.int 0, .ref kd, .ref mo, .ref st, .int 0, .ref ro, .ref tp, .int 0, .ref cd, .ref sr, .int 1, .int 0, .int 0, .ref ir, .ref ih, .ref ss, .ref sq, .ref ce, .ref lw, .int 40, .int 40, .int 0, .int 0, .ref wo, .ref he, .int 0, .int 0, .int 5, .ref sk, .ref na, .ref kp, .int 0, .int 0, .int 0, .int 0, .ref gb, .ref go, .ref fa, .ref ga, .int 0, .int 0, .ref vo])), (ss, .inl (G.2.1, 4, .inl (upd (upd (upd (upd (upd (fun _ => 0) 0 (-1)) 1 (-1)) 2 (-1)) 3 (-1)) v0.toNatClampNeg v1))), (sq, .inl (G.2.1, 4, .inl (upd (fun _ => 0) v0.toNatClampNeg v2))), (ce, .inl (G.2.1, 160, .inl (upd y (((40 * v0) + (nI i)).toNatClampNeg) 0)))] H := hP
                      have hD : va_D A [(h0, .inr (6, [.int 0, .ref kd, .ref mo, .ref st, .int 0, .ref ro, .ref tp, .int 0, .ref cd, .ref sr, .int 1, .int 0, .int 0, .ref ir, .ref ih, .ref ss, .ref sq, .ref ce, .ref lw, .int 40, .int 40, .int 0, .int 0, .ref wo, .ref he, .int 0, .int 0, .int 5, .ref sk, .ref na, .ref kp, .int 0, .int 0, .int 0, .int 0, .ref gb, .ref go, .ref fa, .ref ga, .int 0, .int 0, .ref vo])), (ss, .inl (G.2.1, 4, .inl (upd (upd (upd (upd (upd (fun _ => 0) 0 (-1)) 1 (-1)) 2 (-1)) 3 (-1)) v0.toNatClampNeg v1))), (sq, .inl (G.2.1, 4, .inl (upd (fun _ => 0) v0.toNatClampNeg v2))), (ce, .inl (G.2.1, 160, .inl (upd y (((40 * v0) + (nI i)).toNatClampNeg) 0)))] := hD
                      refine lv_iinc (v := nI (i + 1)) (lv' := [(4, .int (nI (i + 1))), (0, .ref h0), (1, .int v0), (2, .int v1), (3, .int v2)]) hx hb dX6_sheet_90 hl (k := 0) rfl (nI_1 i) (by decide) rfl (fun ls hl => ?_)
                      refine lv_goto (tgt := 70) hx hb dX6_sheet_93 (by decide) ?_
                      exact ih9 (i + 1) (upd y (((40 * v0) + (nI i)).toNatClampNeg) 0) (hi2) (by omega) _ _ (hP.sub [0, 1, 2, 3] rfl) (hD.sub [0, 1, 2, 3] (by decide) rfl) hS ls (lv_sub hl [0, 1, 2, 3, 4] rfl)
                exact loop_70 (41) 0 (fun _ => 0) (Nat.zero_le _) (by omega) _ _ (hP.sub [0, 1, 2, 3] rfl) (hD.sub [0, 1, 2, 3] (by decide) rfl) hS ls (lv_sub hl [0, 1, 2, 3, 4] rfl)
              · skip
                refine lv_iconst (v := 0) hx hb dX6_sheet_61 (by decide) ?_
                refine lv_goto (tgt := 66) hx hb dX6_sheet_62 (by decide) ?_
                refine va_iast (D := G.1) hx hb hK hP hD hS 2 0 rfl rfl (i := v0) (x := 0) (g_in3 (by assumption)) dX6_sheet_66 (fun H locs hP hD hS => ?_)
                have hP : va_P G.1 vwCl [(h0, .inr (6, [.int 0, .ref kd, .ref mo, .ref st, .int 0, .ref ro, .ref tp, .int 0, .ref cd, .ref sr, .int 1, .int 0, .int 0, .ref ir, .ref ih, .ref ss, .ref sq, .ref ce, .ref lw, .int 40, .int 40, .int 0, .int 0, .ref wo, .ref he, .int 0, .int 0, .int 5, .ref sk, .ref na, .ref kp, .int 0, .int 0, .int 0, .int 0, .ref gb, .ref go, .ref fa, .ref ga, .int 0, .int 0, .ref vo])), (ss, .inl (G.2.1, 4, .inl (upd (upd (upd (upd (upd (fun _ => 0) 0 (-1)) 1 (-1)) 2 (-1)) 3 (-1)) v0.toNatClampNeg v1))), (sq, .inl (G.2.1, 4, .inl (upd (fun _ => 0) v0.toNatClampNeg 0))), (ce, .inl (G.2.1, 160, .inl (fun _ => 0)))] H := hP
                have hD : va_D A [(h0, .inr (6, [.int 0, .ref kd, .ref mo, .ref st, .int 0, .ref ro, .ref tp, .int 0, .ref cd, .ref sr, .int 1, .int 0, .int 0, .ref ir, .ref ih, .ref ss, .ref sq, .ref ce, .ref lw, .int 40, .int 40, .int 0, .int 0, .ref wo, .ref he, .int 0, .int 0, .int 5, .ref sk, .ref na, .ref kp, .int 0, .int 0, .int 0, .int 0, .ref gb, .ref go, .ref fa, .ref ga, .int 0, .int 0, .ref vo])), (ss, .inl (G.2.1, 4, .inl (upd (upd (upd (upd (upd (fun _ => 0) 0 (-1)) 1 (-1)) 2 (-1)) 3 (-1)) v0.toNatClampNeg v1))), (sq, .inl (G.2.1, 4, .inl (upd (fun _ => 0) v0.toNatClampNeg 0))), (ce, .inl (G.2.1, 160, .inl (fun _ => 0)))] := hD
                refine lv_iconst (v := 0) hx hb dX6_sheet_67 (by decide) ?_
                refine lv_istore (lv' := [(4, .int 0), (0, .ref h0), (1, .int v0), (2, .int v1), (3, .int v2)]) hx hb dX6_sheet_68 hl (by decide) rfl (fun ls hl => ?_)
                have loop_70 : ∀ (n9 : Nat) (i : Nat) (y : Nat → Int32), (i ≤ 40) → (40 - i) < n9 → ∀ (H : Heap) (locs : List Loc), va_P G.1 vwCl [(h0, .inr (6, [.int 0, .ref kd, .ref mo, .ref st, .int 0, .ref ro, .ref tp, .int 0, .ref cd, .ref sr, .int 1, .int 0, .int 0, .ref ir, .ref ih, .ref ss, .ref sq, .ref ce, .ref lw, .int 40, .int 40, .int 0, .int 0, .ref wo, .ref he, .int 0, .int 0, .int 5, .ref sk, .ref na, .ref kp, .int 0, .int 0, .int 0, .int 0, .ref gb, .ref go, .ref fa, .ref ga, .int 0, .int 0, .ref vo])), (ss, .inl (G.2.1, 4, .inl (upd (upd (upd (upd (upd (fun _ => 0) 0 (-1)) 1 (-1)) 2 (-1)) 3 (-1)) v0.toNatClampNeg v1))), (sq, .inl (G.2.1, 4, .inl (upd (fun _ => 0) v0.toNatClampNeg 0))), (ce, .inl (G.2.1, 160, .inl y))] H → va_D A [(h0, .inr (6, [.int 0, .ref kd, .ref mo, .ref st, .int 0, .ref ro, .ref tp, .int 0, .ref cd, .ref sr, .int 1, .int 0, .int 0, .ref ir, .ref ih, .ref ss, .ref sq, .ref ce, .ref lw, .int 40, .int 40, .int 0, .int 0, .ref wo, .ref he, .int 0, .int 0, .int 5, .ref sk, .ref na, .ref kp, .int 0, .int 0, .int 0, .int 0, .ref gb, .ref go, .ref fa, .ref ga, .int 0, .int 0, .ref vo])), (ss, .inl (G.2.1, 4, .inl (upd (upd (upd (upd (upd (fun _ => 0) 0 (-1)) 1 (-1)) 2 (-1)) 3 (-1)) v0.toNatClampNeg v1))), (sq, .inl (G.2.1, 4, .inl (upd (fun _ => 0) v0.toNatClampNeg 0))), (ce, .inl (G.2.1, 160, .inl y))] → va_S A s.heap H locs → ∀ ls : Array Slot, lv_has ls 5 [(4, .int (nI i)), (0, .ref h0), (1, .int v0), (2, .int v1), (3, .int v2)] → W p l e (headSpec wsX6_sheet ({ frames := 1, cells := 0, slots := 0, locals := 22 })).room s m ([.ref h0, .int v0, .int v1, .int v2] : List Value).toArray below meth c H locs 0 0 (MQ below (q_X6_sheet_0 G h0 kd mo st ro tp cd sr ir ih ss sq ce lw wo he sk na kp gb go fa ga vo v0 v1 v2 A) ([.ref h0, .int v0, .int v1, .int v2] : List Value).toArray s 0 0 A) (F0 m 70 ls []) := by
                  intro n9
                  induction n9 with
                  | zero => intro i y hi hm9; exact absurd hm9 (Nat.not_lt_zero _)
                  | succ n9 ih9 =>
                    intro i y hi hm9 H locs hP hD hS ls hl
                    refine lv_iload hx hb dX6_sheet_70 (lv_at hl 0 rfl) ?_
                    refine lv_bipush (v := 40) hx hb dX6_sheet_72 (by decide) ?_
                    refine lv_icmp_ge (tgt := 96) hx hb dX6_sheet_74 (by decide) (fun c_28 => ?_) (fun c_28 => ?_)
                    · skip
                      refine lv_iconst (v := 1) hx hb dX6_sheet_96 (by decide) ?_
                      have hpost : (fun (r : Int32) (u : Unit) => match u with | _ => r = (if (0 ≤ v0 ∧ v0 ≤ 3) ∧ (-1 ≤ v1 ∧ v1 ≤ 2) then (if v1 = -1 then 1 else if 40 < v2 then -2 else if v2 < 0 then -14 else 1) else -2)) 1 () := pp_X6_sheet_0_11 v0 v1 v2 p_4 p_9 c_11 c_20 c_21 c_25 c_26
                      exact W.iret (v := 1) hx hb hr (fun t ht hW => ⟨⟨1, (), rfl, hpost, trivial⟩, hS.F ht⟩) hS.2.2 dX6_sheet_97
                    · skip
                      have hi2 : i < 40 := by
                        rcases Nat.lt_or_ge i 40 with z | z
                        · exact z
                        · exact absurd (nI_le (a := 40) z (by omega)) c_28
                      refine lv_aload_n hx hb dX6_sheet_77 rfl (lv_at hl 1 rfl) ?_
                      refine va_get (D := G.1) (ci := 6) (v := .ref ce) (C := RX6) (T := TX6) (N := 42) hx hb hts hiX6 hown hK hP 0 rfl rfl 17 (by decide) kf43 (fun _ h9 => h9) rfl dX6_sheet_78 ?_
                      refine lv_bipush (v := 40) hx hb dX6_sheet_81 (by decide) ?_
                      refine lv_iload_n hx hb dX6_sheet_83 rfl (lv_at hl 2 rfl) ?_
                      refine lv_imul hx hb dX6_sheet_84 ?_
                      refine lv_iload hx hb dX6_sheet_85 (lv_at hl 0 rfl) ?_
                      refine lv_iadd hx hb dX6_sheet_87 ?_
                      refine lv_iconst (v := 0) hx hb dX6_sheet_88 (by decide) ?_
                      refine va_iast (D := G.1) hx hb hK hP hD hS 3 0 rfl rfl (i := ((40 * v0) + (nI i))) (x := 0) (g_ix40 (by assumption) hi2) dX6_sheet_89 (fun H locs hP hD hS => ?_)
                      have hP : va_P G.1 vwCl [(h0, .inr (6, [.int 0, .ref kd, .ref mo, .ref st, .int 0, .ref ro, .ref tp, .int 0, .ref cd, .ref sr, .int 1, .int 0, .int 0, .ref ir, .ref ih, .ref ss, .ref sq, .ref ce, .ref lw, .int 40, .int 40, .int 0, .int 0, .ref wo, .ref he, .int 0, .int 0, .int 5, .ref sk, .ref na, .ref kp, .int 0, .int 0, .int 0, .int 0, .ref gb, .ref go, .ref fa, .ref ga, .int 0, .int 0, .ref vo])), (ss, .inl (G.2.1, 4, .inl (upd (upd (upd (upd (upd (fun _ => 0) 0 (-1)) 1 (-1)) 2 (-1)) 3 (-1)) v0.toNatClampNeg v1))), (sq, .inl (G.2.1, 4, .inl (upd (fun _ => 0) v0.toNatClampNeg 0))), (ce, .inl (G.2.1, 160, .inl (upd y (((40 * v0) + (nI i)).toNatClampNeg) 0)))] H := hP
                      have hD : va_D A [(h0, .inr (6, [.int 0, .ref kd, .ref mo, .ref st, .int 0, .ref ro, .ref tp, .int 0, .ref cd, .ref sr, .int 1, .int 0, .int 0, .ref ir, .ref ih, .ref ss, .ref sq, .ref ce, .ref lw, .int 40, .int 40, .int 0, .int 0, .ref wo, .ref he, .int 0, .int 0, .int 5, .ref sk, .ref na, .ref kp, .int 0, .int 0, .int 0, .int 0, .ref gb, .ref go, .ref fa, .ref ga, .int 0, .int 0, .ref vo])), (ss, .inl (G.2.1, 4, .inl (upd (upd (upd (upd (upd (fun _ => 0) 0 (-1)) 1 (-1)) 2 (-1)) 3 (-1)) v0.toNatClampNeg v1))), (sq, .inl (G.2.1, 4, .inl (upd (fun _ => 0) v0.toNatClampNeg 0))), (ce, .inl (G.2.1, 160, .inl (upd y (((40 * v0) + (nI i)).toNatClampNeg) 0)))] := hD
                      refine lv_iinc (v := nI (i + 1)) (lv' := [(4, .int (nI (i + 1))), (0, .ref h0), (1, .int v0), (2, .int v1), (3, .int v2)]) hx hb dX6_sheet_90 hl (k := 0) rfl (nI_1 i) (by decide) rfl (fun ls hl => ?_)
                      refine lv_goto (tgt := 70) hx hb dX6_sheet_93 (by decide) ?_
                      exact ih9 (i + 1) (upd y (((40 * v0) + (nI i)).toNatClampNeg) 0) (hi2) (by omega) _ _ (hP.sub [0, 1, 2, 3] rfl) (hD.sub [0, 1, 2, 3] (by decide) rfl) hS ls (lv_sub hl [0, 1, 2, 3, 4] rfl)
                exact loop_70 (41) 0 (fun _ => 0) (Nat.zero_le _) (by omega) _ _ (hP.sub [0, 1, 2, 3] rfl) (hD.sub [0, 1, 2, 3] (by decide) rfl) hS ls (lv_sub hl [0, 1, 2, 3, 4] rfl)
            · skip
              refine lv_bipush (v := -14) hx hb dX6_sheet_41 (by decide) ?_
              have hpost : (fun (r : Int32) (u : Unit) => match u with | _ => r = (if (0 ≤ v0 ∧ v0 ≤ 3) ∧ (-1 ≤ v1 ∧ v1 ≤ 2) then (if v1 = -1 then 1 else if 40 < v2 then -2 else if v2 < 0 then -14 else 1) else -2)) (-14) () := pp_X6_sheet_0_12 v0 v1 v2 p_4 p_9 c_11 c_20 c_21 c_25
              exact W.iret (v := (-14)) hx hb hr (fun t ht hW => ⟨⟨(-14), (), rfl, hpost, trivial⟩, hS.F ht⟩) hS.2.2 dX6_sheet_43
        · skip
          refine lv_bipush (v := -2) hx hb dX6_sheet_29 (by decide) ?_
          have hpost : (fun (r : Int32) (u : Unit) => match u with | _ => r = (if (0 ≤ v0 ∧ v0 ≤ 3) ∧ (-1 ≤ v1 ∧ v1 ≤ 2) then (if v1 = -1 then 1 else if 40 < v2 then -2 else if v2 < 0 then -14 else 1) else -2)) (-2) () := pp_X6_sheet_0_13 v0 v1 v2 p_4 p_9 c_11 c_20
          exact W.iret (v := (-2)) hx hb hr (fun t ht hW => ⟨⟨(-2), (), rfl, hpost, trivial⟩, hS.F ht⟩) hS.2.2 dX6_sheet_31
